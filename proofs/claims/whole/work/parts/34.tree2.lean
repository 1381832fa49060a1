/-! TREE: adding at the ends, the rows' slots, the constructor. -/
theorem map_snoc1 (l : List Nat) (x : Nat) : (l ++ [x]).map nI = l.map nI ++ [nI x] := by simp
def addA (T : Tr) (els : List Int32) (one : List Nat → List Nat) (i : Nat) : Nat → List Int32 := fun k => if k = 0 then els else if k < i then (one (T.2.1 k)).map nI else (T.2.1 k).map nI
theorem endOf_cell {l : List Nat} (h : l.length < 2 ^ 31) : cellR (l.map nI) (nI (l.length - 1)) = nI (endOf l) := by
  rw [cellR_N (by omega), gdm]; rfl
theorem begOf_cell (l : List Nat) : cellR (l.map nI) (nI 0) = nI (begOf l) := by
  rw [cellR_N (by omega), gdm]; rfl
set_option maxRecDepth 100000 in
set_option maxHeartbeats 4000000 in
theorem c_Tree_addLast (N : gN) (w : gW) (t : Nat) (T : Tr) (x : Int32) (hw : wfT 5 T) (hl : T.1.length < 80) (hT : TreeV w t (trs T) T.2.2) : CtN N y_Tree_addLast b_Tree_addLast 4 none (rmm 2 41 0 0) [.ref t, .int x] w (pV (fun w' => Sm w w' t (t + 16) ∧ TreeV w' t (trs (addEnd T x)) (addEnd T x).2.2)) 0 0 := by
  refine ct_intro N [some (.ref t), some (.int x), none, none] (by decide) rfl (Nat.le_of_ble_eq_true rfl) (by simp [Value.category]) ?_
  intro X hX C Rr
  refine g_aldn C d_Tree_addLast_0 rfl ?_
  refine t_rows C d_Tree_addLast_1 fl_Tree_11 (by assumption) ?_
  refine g_iconst (v := nI 0) C d_Tree_addLast_4 rfl ?_
  refine t_aald C d_Tree_addLast_5 (by assumption) (by omega) ?_
  refine g_ldn C d_Tree_addLast_6 rfl ?_
  refine g_callV (ci := kRow) C d_Tree_addLast_7 cw_Tree_40 sl_Row_addLast (c_Row_addLast X.1 w (t + 2 + 2 * 0) _ x hl (hT.2.2 0 (by omega))) rfl (hT.2.2 0 (by omega)).cell (As := [.int x]) rfl rfl rfl (Nat.le_of_ble_eq_true rfl) ⟨rfl, rfl, by decide, by decide⟩ ⟨by decide, by decide⟩ (kV (fun w1 h1 => ?_))
  have h5 := hw.2.1
  have hT1 := hT.up (by omega) h1.1 h1.2
  have S1 := Sm.tree (k := 0) (by omega) h1.1
  have loop : ∀ i, i ≤ T.2.2 + 1 → ∀ w1, 1 ≤ i → Sm w w1 t (t + 16) → (∀ k, 1 ≤ k → k < i → 4 ≤ endOf (T.2.1 k)) → TreeV w1 t (addA T (T.1 ++ [x]) (fun l => l ++ [1]) i) T.2.2 → V X w1 0 0 [some (.ref t), some (.int x), some (.int (nI i)), none] [] 12 := by
    refine upto _ (fun i hi ih w1 hi1 hS hfull hT1 => ?_)
    refine g_ldn C d_Tree_addLast_12 rfl ?_
    refine g_aldn C d_Tree_addLast_13 rfl ?_
    refine t_hei C d_Tree_addLast_14 fl_Tree_18 (by assumption) ?_
    refine g_icmp_gt C 85 d_Tree_addLast_17 (by decide) (by first | exact nI_toInt (by omega) | rfl) (by first | exact nI_toInt (by omega) | rfl) (fun b17 => ?_) (fun b17 => ?_)
    · have e : i = T.2.2 + 1 := by omega
      subst e
      have e1 : addA T (T.1 ++ [x]) (fun l => l ++ [1]) (T.2.2 + 1) (T.2.2 + 1) = [] := by
        unfold addA; rw [if_neg (by omega), if_neg (by omega), hw.2.2.2.1 _ (Or.inr (by omega))]; rfl
      refine g_aldn C d_Tree_addLast_85 rfl ?_
      refine g_callV (ci := kTree) C d_Tree_addLast_86 cw_Tree_44 sl_Tree_setRootOnTop (c_Tree_setRootOnTop X.1 w1 t _ T.2.2 (by omega) (by rw [e1]; decide) hT1) rfl hT1.1 (As := []) rfl rfl rfl (Nat.le_of_ble_eq_true rfl) ⟨rfl, rfl, by decide, by decide⟩ ⟨by decide, by decide⟩ (kV (fun w2 h2 => ?_))
      have at_ : addAt endOf T.2.1 T.2.2 = T.2.2 + 1 := addAt_eq (by omega) (Nat.le_refl _) hfull (fun z => by omega)
      have hh : (addEnd T x).2.2 = T.2.2 + 1 := by show (if addAt endOf T.2.1 T.2.2 ≤ T.2.2 then _ else _) = _; rw [at_, if_neg (by omega)]
      refine g_vret C Rr d_Tree_addLast_89 (by decide) (by decide) ⟨rfl, hS.trans h2.1, h2.2.congr (fun k hk => ?_) hh⟩
      unfold trs addEnd addRows
      simp only [at_]
      by_cases c0 : k = 0
      · subst c0; rw [if_pos rfl, va_up_ne _ _ (by omega)]; unfold addA; rw [if_pos rfl]
      · rw [if_neg c0]
        by_cases c1 : k < T.2.2 + 1
        · rw [if_pos (by omega), va_up_ne _ _ (by omega)]; unfold addA; rw [if_neg c0, if_pos c1]
        · by_cases c2 : k = T.2.2 + 1
          · subst c2
            rw [if_neg (by omega), if_pos rfl, if_neg (by omega), va_up_self, e1]
            by_cases h0 : T.2.2 = 0
            · have : T.1.length = 0 := hw.2.2.1.mp h0
              rw [if_pos h0]
              unfold addA
              rw [if_pos h0]
              simp [this]
            · rw [if_neg h0]
              have := hw.2.2.2.2.2 (by omega)
              unfold addA
              rw [if_neg h0, if_pos (by omega)]
              simp [this]
          · rw [if_neg (by omega), if_neg c2, va_up_ne _ _ c2]; unfold addA; rw [if_neg c0, if_neg c1]
    · have hih : i ≤ T.2.2 := by omega
      have hne := wf_ne hw hi1 hih
      have hl80 := wf_len hw i
      have e1 : addA T (T.1 ++ [x]) (fun l => l ++ [1]) i i = (T.2.1 i).map nI := by unfold addA; rw [if_neg (by omega), if_neg (by omega)]
      have hok := wf_okR hw i
      have hri := hT1.2.2 i (by omega)
      rw [e1] at hri
      have hg4 : endOf (T.2.1 i) ≤ 4 := (ok_end hok).1
      refine g_aldn C d_Tree_addLast_20 rfl ?_
      refine t_rows C d_Tree_addLast_21 fl_Tree_11 (by assumption) ?_
      refine g_ldn C d_Tree_addLast_24 rfl ?_
      refine t_aald C d_Tree_addLast_25 (by assumption) (by omega) ?_
      refine t_cnt C d_Tree_addLast_26 fn_Tree_22 (by assumption) (by omega) ?_
      rw [e1, List.length_map]
      refine g_iconst (v := nI 1) C d_Tree_addLast_29 rfl ?_
      first | refine g_subN C d_Tree_addLast_30 (by omega) ?_ | refine g_sub C d_Tree_addLast_30 ?_
      refine g_stn C [_, _, _, _] d_Tree_addLast_31 (Nat.le_of_ble_eq_true rfl) rfl ?_
      refine g_aldn C d_Tree_addLast_32 rfl ?_
      refine t_rows C d_Tree_addLast_33 fl_Tree_11 (by assumption) ?_
      refine g_ldn C d_Tree_addLast_36 rfl ?_
      refine t_aald C d_Tree_addLast_37 (by assumption) (by omega) ?_
      refine g_ldn C d_Tree_addLast_38 rfl ?_
      refine g_callV (ci := kRow) C d_Tree_addLast_39 cw_Tree_25 sl_Row_cell (c_Row_cell X.1 w1 (t + 2 + 2 * i) _ (nI ((T.2.1 i).length - 1)) hri) rfl hri.cell (As := [.int (nI ((T.2.1 i).length - 1))]) rfl rfl rfl (Nat.le_of_ble_eq_true rfl) ⟨rfl, rfl, by decide, by decide⟩ ⟨by decide, by decide⟩ (kI (fun r w2 h2 => ?_))
      obtain ⟨rfl, rfl⟩ := h2
      rw [endOf_cell (by omega)]
      refine g_iconst (v := nI 4) C d_Tree_addLast_42 rfl ?_
      refine g_icmp_ge C 69 d_Tree_addLast_43 (by decide) (by first | exact nI_toInt (by omega) | rfl) (by first | exact nI_toInt (by omega) | rfl) (fun b43 => ?_) (fun b43 => ?_)
      · refine g_aldn C d_Tree_addLast_69 rfl ?_
        refine t_rows C d_Tree_addLast_70 fl_Tree_11 (by assumption) ?_
        refine g_ldn C d_Tree_addLast_73 rfl ?_
        refine t_aald C d_Tree_addLast_74 (by assumption) (by omega) ?_
        refine g_iconst (v := nI 1) C d_Tree_addLast_75 rfl ?_
        refine g_callV (ci := kRow) C d_Tree_addLast_76 cw_Tree_40 sl_Row_addLast (c_Row_addLast X.1 w2 (t + 2 + 2 * i) _ (nI 1) (by rw [List.length_map]; have := wf_cn_le hw i hih; rw [cn_p T hi1] at this; omega) hri) rfl hri.cell (As := [.int (nI 1)]) rfl rfl rfl (Nat.le_of_ble_eq_true rfl) ⟨rfl, rfl, by decide, by decide⟩ ⟨by decide, by decide⟩ (kV (fun w3 h3 => ?_))
        have hT3 := hT1.up (by omega) h3.1 h3.2
        refine g_incN C [_, _, _, _] d_Tree_addLast_79 rfl rfl ?_
        refine g_goto C 12 d_Tree_addLast_82 (by decide) ?_
        refine V.le (lvle.keep (lvle.keep (lvle.keep (lvle.drop lvle.nil)))) ?_
        refine ih (i + 1) (by omega) (by omega) w3 (by omega) (hS.trans (Sm.tree (k := i) (by omega) h3.1)) (fun k k1 k2 => ?_) (hT3.congr (fun k hk => ?_) rfl)
        · by_cases e : k = i
          · subst e; omega
          · exact hfull k k1 (by omega)
        · by_cases e : k = i
          · subst e
            rw [va_up_self]; unfold addA; rw [if_neg (by omega), if_pos (by omega)]; simp
          · rw [va_up_ne _ _ e]; unfold addA
            by_cases c0 : k = 0
            · rw [if_pos c0, if_pos c0]
            · rw [if_neg c0, if_neg c0]
              by_cases c1 : k < i
              · rw [if_pos c1, if_pos (by omega)]
              · rw [if_neg c1, if_neg (by omega)]
      · refine g_aldn C d_Tree_addLast_46 rfl ?_
        refine t_rows C d_Tree_addLast_47 fl_Tree_11 (by assumption) ?_
        refine g_ldn C d_Tree_addLast_50 rfl ?_
        refine t_aald C d_Tree_addLast_51 (by assumption) (by omega) ?_
        refine g_ldn C d_Tree_addLast_52 rfl ?_
        refine g_aldn C d_Tree_addLast_53 rfl ?_
        refine t_rows C d_Tree_addLast_54 fl_Tree_11 (by assumption) ?_
        refine g_ldn C d_Tree_addLast_57 rfl ?_
        refine t_aald C d_Tree_addLast_58 (by assumption) (by omega) ?_
        refine g_ldn C d_Tree_addLast_59 rfl ?_
        refine g_callV (ci := kRow) C d_Tree_addLast_60 cw_Tree_25 sl_Row_cell (c_Row_cell X.1 w2 (t + 2 + 2 * i) _ (nI ((T.2.1 i).length - 1)) hri) rfl hri.cell (As := [.int (nI ((T.2.1 i).length - 1))]) rfl rfl rfl (Nat.le_of_ble_eq_true rfl) ⟨rfl, rfl, by decide, by decide⟩ ⟨by decide, by decide⟩ (kI (fun r w3 h3 => ?_))
        obtain ⟨rfl, rfl⟩ := h3
        rw [endOf_cell (by omega)]
        refine g_iconst (v := nI 1) C d_Tree_addLast_63 rfl ?_
        first | refine g_addN C d_Tree_addLast_64 ?_ | refine g_add C d_Tree_addLast_64 ?_
        refine g_callV (ci := kRow) C d_Tree_addLast_65 cw_Tree_29 sl_Row_write (c_Row_write X.1 w3 (t + 2 + 2 * i) _ ((T.2.1 i).length - 1) (nI (endOf (T.2.1 i) + 1)) (by omega) hri) rfl hri.cell (As := [.int (nI ((T.2.1 i).length - 1)), .int (nI (endOf (T.2.1 i) + 1))]) rfl rfl rfl (Nat.le_of_ble_eq_true rfl) ⟨rfl, rfl, by decide, by decide⟩ ⟨by decide, by decide⟩ (kV (fun w4 h4 => ?_))
        have hT4 := hT1.up (by omega) h4.1 h4.2
        have at_ : addAt endOf T.2.1 T.2.2 = i := addAt_eq hi1 (by omega) hfull (fun z => by omega)
        have hh : (addEnd T x).2.2 = T.2.2 := by show (if addAt endOf T.2.1 T.2.2 ≤ T.2.2 then _ else _) = _; rw [at_, if_pos hih]
        refine g_vret C Rr d_Tree_addLast_68 (by decide) (by decide) ⟨rfl, hS.trans (Sm.tree (k := i) (by omega) h4.1), hT4.congr (fun k hk => ?_) hh⟩
        unfold trs addEnd addRows
        simp only [at_]
        by_cases c0 : k = 0
        · subst c0; rw [if_pos rfl, va_up_ne _ _ (by omega)]; unfold addA; rw [if_pos rfl]
        · rw [if_neg c0]
          by_cases c1 : k < i
          · rw [if_pos (by omega), va_up_ne _ _ (by omega)]; unfold addA; rw [if_neg c0, if_pos c1]
          · by_cases c2 : k = i
            · subst c2
              rw [if_neg (by omega), if_pos rfl, if_pos hih, va_up_self, List.map_set]
            · rw [if_neg (by omega), if_neg c2, va_up_ne _ _ c2]; unfold addA; rw [if_neg c0, if_neg c1]
  refine g_iconst (v := nI 1) C d_Tree_addLast_10 rfl ?_
  refine g_stn C [_, _, _, _] d_Tree_addLast_11 (Nat.le_of_ble_eq_true rfl) rfl ?_
  refine loop 1 (by omega) w1 (Nat.le_refl _) S1 (fun k a b => by omega) (hT1.congr (fun k hk => ?_) rfl)
  unfold addA
  by_cases c0 : k = 0
  · subst c0; rw [if_pos rfl, va_up_self]
  · rw [if_neg c0, if_neg (by omega), va_up_ne _ _ c0]; unfold trs; rw [if_neg c0]
set_option maxRecDepth 100000 in
set_option maxHeartbeats 4000000 in
theorem c_Tree_addFirst (N : gN) (w : gW) (t : Nat) (T : Tr) (x : Int32) (hw : wfT 5 T) (hl : T.1.length < 80) (hT : TreeV w t (trs T) T.2.2) : CtN N y_Tree_addFirst b_Tree_addFirst 3 none (rmm 2 59 0 0) [.ref t, .int x] w (pV (fun w' => Sm w w' t (t + 16) ∧ TreeV w' t (trs (addBeg T x)) (addBeg T x).2.2)) 0 0 := by
  refine ct_intro N [some (.ref t), some (.int x), none] (by decide) rfl (Nat.le_of_ble_eq_true rfl) (by simp [Value.category]) ?_
  intro X hX C Rr
  refine g_aldn C d_Tree_addFirst_0 rfl ?_
  refine t_rows C d_Tree_addFirst_1 fl_Tree_11 (by assumption) ?_
  refine g_iconst (v := nI 0) C d_Tree_addFirst_4 rfl ?_
  refine t_aald C d_Tree_addFirst_5 (by assumption) (by omega) ?_
  refine g_ldn C d_Tree_addFirst_6 rfl ?_
  refine g_callV (ci := kRow) C d_Tree_addFirst_7 cw_Tree_47 sl_Row_addFirst (c_Row_addFirst X.1 w (t + 2 + 2 * 0) _ x hl (hT.2.2 0 (by omega))) rfl (hT.2.2 0 (by omega)).cell (As := [.int x]) rfl rfl rfl (Nat.le_of_ble_eq_true rfl) ⟨rfl, rfl, by decide, by decide⟩ ⟨by decide, by decide⟩ (kV (fun w1 h1 => ?_))
  have h5 := hw.2.1
  have hT1 := hT.up (by omega) h1.1 h1.2
  have S1 := Sm.tree (k := 0) (by omega) h1.1
  have loop : ∀ i, i ≤ T.2.2 + 1 → ∀ w1, 1 ≤ i → Sm w w1 t (t + 16) → (∀ k, 1 ≤ k → k < i → 4 ≤ begOf (T.2.1 k)) → TreeV w1 t (addA T (x :: T.1) (fun l => 1 :: l) i) T.2.2 → V X w1 0 0 [some (.ref t), some (.int x), some (.int (nI i))] [] 12 := by
    refine upto _ (fun i hi ih w1 hi1 hS hfull hT1 => ?_)
    refine g_ldn C d_Tree_addFirst_12 rfl ?_
    refine g_aldn C d_Tree_addFirst_13 rfl ?_
    refine t_hei C d_Tree_addFirst_14 fl_Tree_18 (by assumption) ?_
    refine g_icmp_gt C 73 d_Tree_addFirst_17 (by decide) (by first | exact nI_toInt (by omega) | rfl) (by first | exact nI_toInt (by omega) | rfl) (fun b17 => ?_) (fun b17 => ?_)
    · have e : i = T.2.2 + 1 := by omega
      subst e
      have e1 : addA T (x :: T.1) (fun l => 1 :: l) (T.2.2 + 1) (T.2.2 + 1) = [] := by
        unfold addA; rw [if_neg (by omega), if_neg (by omega), hw.2.2.2.1 _ (Or.inr (by omega))]; rfl
      refine g_aldn C d_Tree_addFirst_73 rfl ?_
      refine g_callV (ci := kTree) C d_Tree_addFirst_74 cw_Tree_44 sl_Tree_setRootOnTop (c_Tree_setRootOnTop X.1 w1 t _ T.2.2 (by omega) (by rw [e1]; decide) hT1) rfl hT1.1 (As := []) rfl rfl rfl (Nat.le_of_ble_eq_true rfl) ⟨rfl, rfl, by decide, by decide⟩ ⟨by decide, by decide⟩ (kV (fun w2 h2 => ?_))
      have at_ : addAt begOf T.2.1 T.2.2 = T.2.2 + 1 := addAt_eq (by omega) (Nat.le_refl _) hfull (fun z => by omega)
      have hh : (addBeg T x).2.2 = T.2.2 + 1 := by show (if addAt begOf T.2.1 T.2.2 ≤ T.2.2 then _ else _) = _; rw [at_, if_neg (by omega)]
      refine g_vret C Rr d_Tree_addFirst_77 (by decide) (by decide) ⟨rfl, hS.trans h2.1, h2.2.congr (fun k hk => ?_) hh⟩
      unfold trs addBeg addRows
      simp only [at_]
      by_cases c0 : k = 0
      · subst c0; rw [if_pos rfl, va_up_ne _ _ (by omega)]; unfold addA; rw [if_pos rfl]
      · rw [if_neg c0]
        by_cases c1 : k < T.2.2 + 1
        · rw [if_pos (by omega), va_up_ne _ _ (by omega)]; unfold addA; rw [if_neg c0, if_pos c1]
        · by_cases c2 : k = T.2.2 + 1
          · subst c2
            rw [if_neg (by omega), if_pos rfl, if_neg (by omega), va_up_self, e1]
            by_cases h0 : T.2.2 = 0
            · have : T.1.length = 0 := hw.2.2.1.mp h0
              rw [if_pos h0]
              unfold addA
              rw [if_pos h0]
              simp [this]
            · rw [if_neg h0]
              have := hw.2.2.2.2.2 (by omega)
              unfold addA
              rw [if_neg h0, if_pos (by omega)]
              simp [this]
          · rw [if_neg (by omega), if_neg c2, va_up_ne _ _ c2]; unfold addA; rw [if_neg c0, if_neg c1]
    · have hih : i ≤ T.2.2 := by omega
      have hne := wf_ne hw hi1 hih
      have hl80 := wf_len hw i
      have e1 : addA T (x :: T.1) (fun l => 1 :: l) i i = (T.2.1 i).map nI := by unfold addA; rw [if_neg (by omega), if_neg (by omega)]
      have hok := wf_okR hw i
      have hri := hT1.2.2 i (by omega)
      rw [e1] at hri
      have hg4 : begOf (T.2.1 i) ≤ 4 := (ok_beg hok).1
      refine g_aldn C d_Tree_addFirst_20 rfl ?_
      refine t_rows C d_Tree_addFirst_21 fl_Tree_11 (by assumption) ?_
      refine g_ldn C d_Tree_addFirst_24 rfl ?_
      refine t_aald C d_Tree_addFirst_25 (by assumption) (by omega) ?_
      refine g_iconst (v := nI 0) C d_Tree_addFirst_26 rfl ?_
      refine g_callV (ci := kRow) C d_Tree_addFirst_27 cw_Tree_25 sl_Row_cell (c_Row_cell X.1 w1 (t + 2 + 2 * i) _ (nI 0) hri) rfl hri.cell (As := [.int (nI 0)]) rfl rfl rfl (Nat.le_of_ble_eq_true rfl) ⟨rfl, rfl, by decide, by decide⟩ ⟨by decide, by decide⟩ (kI (fun r w2 h2 => ?_))
      obtain ⟨rfl, rfl⟩ := h2
      rw [begOf_cell]
      refine g_iconst (v := nI 4) C d_Tree_addFirst_30 rfl ?_
      refine g_icmp_ge C 57 d_Tree_addFirst_31 (by decide) (by first | exact nI_toInt (by omega) | rfl) (by first | exact nI_toInt (by omega) | rfl) (fun b31 => ?_) (fun b31 => ?_)
      · refine g_aldn C d_Tree_addFirst_57 rfl ?_
        refine t_rows C d_Tree_addFirst_58 fl_Tree_11 (by assumption) ?_
        refine g_ldn C d_Tree_addFirst_61 rfl ?_
        refine t_aald C d_Tree_addFirst_62 (by assumption) (by omega) ?_
        refine g_iconst (v := nI 1) C d_Tree_addFirst_63 rfl ?_
        refine g_callV (ci := kRow) C d_Tree_addFirst_64 cw_Tree_47 sl_Row_addFirst (c_Row_addFirst X.1 w2 (t + 2 + 2 * i) _ (nI 1) (by rw [List.length_map]; have := wf_cn_le hw i hih; rw [cn_p T hi1] at this; omega) hri) rfl hri.cell (As := [.int (nI 1)]) rfl rfl rfl (Nat.le_of_ble_eq_true rfl) ⟨rfl, rfl, by decide, by decide⟩ ⟨by decide, by decide⟩ (kV (fun w3 h3 => ?_))
        have hT3 := hT1.up (by omega) h3.1 h3.2
        refine g_incN C [_, _, _] d_Tree_addFirst_67 rfl rfl ?_
        refine g_goto C 12 d_Tree_addFirst_70 (by decide) ?_
        refine ih (i + 1) (by omega) (by omega) w3 (by omega) (hS.trans (Sm.tree (k := i) (by omega) h3.1)) (fun k k1 k2 => ?_) (hT3.congr (fun k hk => ?_) rfl)
        · by_cases e : k = i
          · subst e; omega
          · exact hfull k k1 (by omega)
        · by_cases e : k = i
          · subst e
            rw [va_up_self]; unfold addA; rw [if_neg (by omega), if_pos (by omega)]; simp
          · rw [va_up_ne _ _ e]; unfold addA
            by_cases c0 : k = 0
            · rw [if_pos c0, if_pos c0]
            · rw [if_neg c0, if_neg c0]
              by_cases c1 : k < i
              · rw [if_pos c1, if_pos (by omega)]
              · rw [if_neg c1, if_neg (by omega)]
      · refine g_aldn C d_Tree_addFirst_34 rfl ?_
        refine t_rows C d_Tree_addFirst_35 fl_Tree_11 (by assumption) ?_
        refine g_ldn C d_Tree_addFirst_38 rfl ?_
        refine t_aald C d_Tree_addFirst_39 (by assumption) (by omega) ?_
        refine g_iconst (v := nI 0) C d_Tree_addFirst_40 rfl ?_
        refine g_aldn C d_Tree_addFirst_41 rfl ?_
        refine t_rows C d_Tree_addFirst_42 fl_Tree_11 (by assumption) ?_
        refine g_ldn C d_Tree_addFirst_45 rfl ?_
        refine t_aald C d_Tree_addFirst_46 (by assumption) (by omega) ?_
        refine g_iconst (v := nI 0) C d_Tree_addFirst_47 rfl ?_
        refine g_callV (ci := kRow) C d_Tree_addFirst_48 cw_Tree_25 sl_Row_cell (c_Row_cell X.1 w2 (t + 2 + 2 * i) _ (nI 0) hri) rfl hri.cell (As := [.int (nI 0)]) rfl rfl rfl (Nat.le_of_ble_eq_true rfl) ⟨rfl, rfl, by decide, by decide⟩ ⟨by decide, by decide⟩ (kI (fun r w3 h3 => ?_))
        obtain ⟨rfl, rfl⟩ := h3
        rw [begOf_cell]
        refine g_iconst (v := nI 1) C d_Tree_addFirst_51 rfl ?_
        first | refine g_addN C d_Tree_addFirst_52 ?_ | refine g_add C d_Tree_addFirst_52 ?_
        refine g_callV (ci := kRow) C d_Tree_addFirst_53 cw_Tree_29 sl_Row_write (c_Row_write X.1 w3 (t + 2 + 2 * i) _ 0 (nI (begOf (T.2.1 i) + 1)) (by omega) hri) rfl hri.cell (As := [.int (nI 0), .int (nI (begOf (T.2.1 i) + 1))]) rfl rfl rfl (Nat.le_of_ble_eq_true rfl) ⟨rfl, rfl, by decide, by decide⟩ ⟨by decide, by decide⟩ (kV (fun w4 h4 => ?_))
        have hT4 := hT1.up (by omega) h4.1 h4.2
        have at_ : addAt begOf T.2.1 T.2.2 = i := addAt_eq hi1 (by omega) hfull (fun z => by omega)
        have hh : (addBeg T x).2.2 = T.2.2 := by show (if addAt begOf T.2.1 T.2.2 ≤ T.2.2 then _ else _) = _; rw [at_, if_pos hih]
        refine g_vret C Rr d_Tree_addFirst_56 (by decide) (by decide) ⟨rfl, hS.trans (Sm.tree (k := i) (by omega) h4.1), hT4.congr (fun k hk => ?_) hh⟩
        unfold trs addBeg addRows
        simp only [at_]
        by_cases c0 : k = 0
        · subst c0; rw [if_pos rfl, va_up_ne _ _ (by omega)]; unfold addA; rw [if_pos rfl]
        · rw [if_neg c0]
          by_cases c1 : k < i
          · rw [if_pos (by omega), va_up_ne _ _ (by omega)]; unfold addA; rw [if_neg c0, if_pos c1]
          · by_cases c2 : k = i
            · subst c2
              rw [if_neg (by omega), if_pos rfl, if_pos hih, va_up_self, List.map_set]
            · rw [if_neg (by omega), if_neg c2, va_up_ne _ _ c2]; unfold addA; rw [if_neg c0, if_neg c1]
  refine g_iconst (v := nI 1) C d_Tree_addFirst_10 rfl ?_
  refine g_stn C [_, _, _] d_Tree_addFirst_11 (Nat.le_of_ble_eq_true rfl) rfl ?_
  refine loop 1 (by omega) w1 (Nat.le_refl _) S1 (fun k a b => by omega) (hT1.congr (fun k hk => ?_) rfl)
  unfold addA
  by_cases c0 : k = 0
  · subst c0; rw [if_pos rfl, va_up_self]
  · rw [if_neg c0, if_neg (by omega), va_up_ne _ _ c0]; unfold trs; rw [if_neg c0]
