/-! THE CLASS: its public calls that make or change a version. -/
set_option maxRecDepth 100000 in
set_option maxHeartbeats 4000000 in
theorem c_Cls_append (N : gN) (w : gW) (x : Nat) (S : St) (ed : Nat) (ts : List Nat) (O : Nat → Int32) (v y : Int32) (hC : ClsV w x S ed ts O) : CtN N y_Cls_append b_Cls_append 4 (some FieldType.int) (rmm 8 190 17 663) [.ref x, .int v, .int y] w (pI (fun r w' => mkP w x (sApp S v y) r w')) 17 663 := by
  refine ct_intro N [some (.ref x), some (.int v), some (.int y), none] (by decide) rfl (Nat.le_of_ble_eq_true rfl) (by simp [Value.category]) ?_
  intro X hX C Rr
  obtain ⟨c0, cA, cO, ⟨⟨rs1, h1, cs1⟩, ⟨rs2, h2, cs2⟩, ⟨rs3, h3, cs3⟩⟩, ⟨cl, ck⟩, cT, ⟨cf, cf0⟩, cg, cm, ⟨cd, cz, ce, cx⟩⟩ := id hC
  have ck40 := ck.2.1
  refine g_aldn C d_Cls_append_0 rfl ?_
  refine g_ldn C d_Cls_append_1 rfl ?_
  refine g_iconst (v := nI 1) C d_Cls_append_2 rfl ?_
  refine g_callV (ci := kCls) C d_Cls_append_3 cw_Cls_37 sl_Cls_refusalToGrow (c_Cls_refusalToGrow X.1 w x S ed ts O v (1) (by omega) hC) rfl hC.1 (As := [.int (v), .int (nI (1))]) rfl rfl rfl (Nat.le_of_ble_eq_true rfl) ⟨rfl, rfl, by decide, by decide⟩ ⟨by decide, by decide⟩ (kI (fun r w2 h2 => ?_))
  rcases rfs_cases S (v) (1) with ⟨hv, e⟩ | ⟨hv, h40, e⟩ | ⟨hv, h40, h80, e⟩ | ⟨hv, h40, h80, e⟩
  · rw [h2.1, h2.2, e]
    refine g_stn C [_, _, _, _] d_Cls_append_6 (Nat.le_of_ble_eq_true rfl) rfl ?_
    refine g_ldn C d_Cls_append_7 rfl ?_
    refine g_if_eq C 13 d_Cls_append_8 (by decide) (show (-1 : Int32).toInt = -1 by decide) (fun b8 => ?_) (fun b8 => ?_)
    · exfalso; omega
    · refine g_ldn C d_Cls_append_11 rfl ?_
      exact g_iret C Rr d_Cls_append_12 rfl (by decide) (by decide) ⟨_, rfl, mkP.same hC (by unfold sApp sGrow; rw [if_pos hv])⟩
  · rw [h2.1, h2.2, e]
    refine g_stn C [_, _, _, _] d_Cls_append_6 (Nat.le_of_ble_eq_true rfl) rfl ?_
    refine g_ldn C d_Cls_append_7 rfl ?_
    refine g_if_eq C 13 d_Cls_append_8 (by decide) (show (-2 : Int32).toInt = -2 by decide) (fun b8 => ?_) (fun b8 => ?_)
    · exfalso; omega
    · refine g_ldn C d_Cls_append_11 rfl ?_
      exact g_iret C Rr d_Cls_append_12 rfl (by decide) (by decide) ⟨_, rfl, mkP.same hC (by unfold sApp sGrow; rw [if_neg (fun z => z hv), if_pos h40])⟩
  · rw [h2.1, h2.2, e]
    refine g_stn C [_, _, _, _] d_Cls_append_6 (Nat.le_of_ble_eq_true rfl) rfl ?_
    refine g_ldn C d_Cls_append_7 rfl ?_
    refine g_if_eq C 13 d_Cls_append_8 (by decide) (show (-3 : Int32).toInt = -3 by decide) (fun b8 => ?_) (fun b8 => ?_)
    · exfalso; omega
    · refine g_ldn C d_Cls_append_11 rfl ?_
      exact g_iret C Rr d_Cls_append_12 rfl (by decide) (by decide) ⟨_, rfl, mkP.same hC (by unfold sApp sGrow; rw [if_neg (fun z => z hv), if_neg h40, if_pos h80])⟩
  · rw [h2.1, h2.2, e]
    refine g_stn C [_, _, _, _] d_Cls_append_6 (Nat.le_of_ble_eq_true rfl) rfl ?_
    refine g_ldn C d_Cls_append_7 rfl ?_
    refine g_if_eq C 13 d_Cls_append_8 (by decide) (by first | exact nI_toInt (by omega) | rfl) (fun b8 => ?_) (fun b8 => ?_)
    · obtain ⟨a, ha, rfl⟩ := vOk_ex hv.1
      have ha31 : a < 2 ^ 31 := by omega
      have hT := cT a ha
      have hwf := hC.wf ha
      have hl := hwf.1
      have hh := hwf.2.1
      have ga := cg a ha
      rw [vT_N ha31] at h80
      refine g_aldn C d_Cls_append_13 rfl ?_
      refine g_get C d_Cls_append_14 fl_Cls_34 hC.1 (by rfl) ?_
      refine g_aldn C d_Cls_append_17 rfl ?_
      refine g_get C d_Cls_append_18 fl_Cls_12 hC.1 (by rfl) ?_
      refine g_ldn C d_Cls_append_21 rfl ?_
      refine q_get C d_Cls_append_22 d_Cls_append_25 hC (by omega) rfl (Nat.le_of_ble_eq_true rfl) (by decide) (by decide) (by decide) (by decide) ?_
      refine g_callV (ci := kTree) C d_Cls_append_28 cw_Cls_45 sl_Tree_become (c_Tree_become X.1 w (x + 52) (gd 0 ts a) _ _ _ _ (by omega) cs3 hT) rfl cs3.1 (As := [.ref (gd 0 ts a)]) rfl rfl rfl (Nat.le_of_ble_eq_true rfl) ⟨rfl, rfl, by decide, by decide⟩ ⟨by decide, by decide⟩ (kV (fun w3 h3 => ?_))
      have hC3 := hC.scr (by omega) h3.1 h3.2
      refine g_aldn C d_Cls_append_31 rfl ?_
      refine g_get C d_Cls_append_32 fl_Cls_34 hC3.1 (by rfl) ?_
      refine g_ldn C d_Cls_append_35 rfl ?_
      refine g_callV (ci := kTree) C d_Cls_append_36 cw_Cls_49 sl_Tree_addLast (c_Tree_addLast X.1 w3 (x + 52) (S_ S a).1 y (wf_up hwf (by omega)) (by omega) h3.2) rfl h3.2.1 (As := [.int y]) rfl rfl rfl (Nat.le_of_ble_eq_true rfl) ⟨rfl, rfl, by decide, by decide⟩ ⟨by decide, by decide⟩ (kV (fun w4 h4 => ?_))
      have hC4 := hC3.scr (by omega) h4.1 h4.2
      refine g_aldn C d_Cls_append_39 rfl ?_
      refine g_callV (ci := kCls) C d_Cls_append_40 cw_Cls_53 sl_Cls_keepResult (c_Cls_keepResult X.1 w4 x S ed ts O (addEnd (S_ S a).1 y) (wf_up (addEnd_wf hwf (by omega) y) (by omega)) (by omega) hC4 h4.2) rfl hC4.1 (As := []) rfl rfl rfl (Nat.le_of_ble_eq_true rfl) ⟨rfl, rfl, by decide, by decide⟩ ⟨by decide, by decide⟩ (kI (fun r w9 h9 => ?_))
      exact g_iret C Rr d_Cls_append_43 rfl (by decide) (by decide) ⟨_, rfl, mkP.of (by unfold sApp sGrow; rw [if_neg (fun z => z hv), if_neg h40, vT_N ha31, if_neg (by omega)]) ((Fr.rf.sm h3.1 (by omega)).sm h4.1 (by omega)) h9⟩
    · exfalso; omega
set_option maxRecDepth 100000 in
set_option maxHeartbeats 4000000 in
theorem c_Cls_prepend (N : gN) (w : gW) (x : Nat) (S : St) (ed : Nat) (ts : List Nat) (O : Nat → Int32) (v y : Int32) (hC : ClsV w x S ed ts O) : CtN N y_Cls_prepend b_Cls_prepend 4 (some FieldType.int) (rmm 8 190 17 663) [.ref x, .int v, .int y] w (pI (fun r w' => mkP w x (sPre S v y) r w')) 17 663 := by
  refine ct_intro N [some (.ref x), some (.int v), some (.int y), none] (by decide) rfl (Nat.le_of_ble_eq_true rfl) (by simp [Value.category]) ?_
  intro X hX C Rr
  obtain ⟨c0, cA, cO, ⟨⟨rs1, h1, cs1⟩, ⟨rs2, h2, cs2⟩, ⟨rs3, h3, cs3⟩⟩, ⟨cl, ck⟩, cT, ⟨cf, cf0⟩, cg, cm, ⟨cd, cz, ce, cx⟩⟩ := id hC
  have ck40 := ck.2.1
  refine g_aldn C d_Cls_prepend_0 rfl ?_
  refine g_ldn C d_Cls_prepend_1 rfl ?_
  refine g_iconst (v := nI 1) C d_Cls_prepend_2 rfl ?_
  refine g_callV (ci := kCls) C d_Cls_prepend_3 cw_Cls_37 sl_Cls_refusalToGrow (c_Cls_refusalToGrow X.1 w x S ed ts O v (1) (by omega) hC) rfl hC.1 (As := [.int (v), .int (nI (1))]) rfl rfl rfl (Nat.le_of_ble_eq_true rfl) ⟨rfl, rfl, by decide, by decide⟩ ⟨by decide, by decide⟩ (kI (fun r w2 h2 => ?_))
  rcases rfs_cases S (v) (1) with ⟨hv, e⟩ | ⟨hv, h40, e⟩ | ⟨hv, h40, h80, e⟩ | ⟨hv, h40, h80, e⟩
  · rw [h2.1, h2.2, e]
    refine g_stn C [_, _, _, _] d_Cls_prepend_6 (Nat.le_of_ble_eq_true rfl) rfl ?_
    refine g_ldn C d_Cls_prepend_7 rfl ?_
    refine g_if_eq C 13 d_Cls_prepend_8 (by decide) (show (-1 : Int32).toInt = -1 by decide) (fun b8 => ?_) (fun b8 => ?_)
    · exfalso; omega
    · refine g_ldn C d_Cls_prepend_11 rfl ?_
      exact g_iret C Rr d_Cls_prepend_12 rfl (by decide) (by decide) ⟨_, rfl, mkP.same hC (by unfold sPre sGrow; rw [if_pos hv])⟩
  · rw [h2.1, h2.2, e]
    refine g_stn C [_, _, _, _] d_Cls_prepend_6 (Nat.le_of_ble_eq_true rfl) rfl ?_
    refine g_ldn C d_Cls_prepend_7 rfl ?_
    refine g_if_eq C 13 d_Cls_prepend_8 (by decide) (show (-2 : Int32).toInt = -2 by decide) (fun b8 => ?_) (fun b8 => ?_)
    · exfalso; omega
    · refine g_ldn C d_Cls_prepend_11 rfl ?_
      exact g_iret C Rr d_Cls_prepend_12 rfl (by decide) (by decide) ⟨_, rfl, mkP.same hC (by unfold sPre sGrow; rw [if_neg (fun z => z hv), if_pos h40])⟩
  · rw [h2.1, h2.2, e]
    refine g_stn C [_, _, _, _] d_Cls_prepend_6 (Nat.le_of_ble_eq_true rfl) rfl ?_
    refine g_ldn C d_Cls_prepend_7 rfl ?_
    refine g_if_eq C 13 d_Cls_prepend_8 (by decide) (show (-3 : Int32).toInt = -3 by decide) (fun b8 => ?_) (fun b8 => ?_)
    · exfalso; omega
    · refine g_ldn C d_Cls_prepend_11 rfl ?_
      exact g_iret C Rr d_Cls_prepend_12 rfl (by decide) (by decide) ⟨_, rfl, mkP.same hC (by unfold sPre sGrow; rw [if_neg (fun z => z hv), if_neg h40, if_pos h80])⟩
  · rw [h2.1, h2.2, e]
    refine g_stn C [_, _, _, _] d_Cls_prepend_6 (Nat.le_of_ble_eq_true rfl) rfl ?_
    refine g_ldn C d_Cls_prepend_7 rfl ?_
    refine g_if_eq C 13 d_Cls_prepend_8 (by decide) (by first | exact nI_toInt (by omega) | rfl) (fun b8 => ?_) (fun b8 => ?_)
    · obtain ⟨a, ha, rfl⟩ := vOk_ex hv.1
      have ha31 : a < 2 ^ 31 := by omega
      have hT := cT a ha
      have hwf := hC.wf ha
      have hl := hwf.1
      have hh := hwf.2.1
      have ga := cg a ha
      rw [vT_N ha31] at h80
      refine g_aldn C d_Cls_prepend_13 rfl ?_
      refine g_get C d_Cls_prepend_14 fl_Cls_34 hC.1 (by rfl) ?_
      refine g_aldn C d_Cls_prepend_17 rfl ?_
      refine g_get C d_Cls_prepend_18 fl_Cls_12 hC.1 (by rfl) ?_
      refine g_ldn C d_Cls_prepend_21 rfl ?_
      refine q_get C d_Cls_prepend_22 d_Cls_prepend_25 hC (by omega) rfl (Nat.le_of_ble_eq_true rfl) (by decide) (by decide) (by decide) (by decide) ?_
      refine g_callV (ci := kTree) C d_Cls_prepend_28 cw_Cls_45 sl_Tree_become (c_Tree_become X.1 w (x + 52) (gd 0 ts a) _ _ _ _ (by omega) cs3 hT) rfl cs3.1 (As := [.ref (gd 0 ts a)]) rfl rfl rfl (Nat.le_of_ble_eq_true rfl) ⟨rfl, rfl, by decide, by decide⟩ ⟨by decide, by decide⟩ (kV (fun w3 h3 => ?_))
      have hC3 := hC.scr (by omega) h3.1 h3.2
      refine g_aldn C d_Cls_prepend_31 rfl ?_
      refine g_get C d_Cls_prepend_32 fl_Cls_34 hC3.1 (by rfl) ?_
      refine g_ldn C d_Cls_prepend_35 rfl ?_
      refine g_callV (ci := kTree) C d_Cls_prepend_36 cw_Cls_57 sl_Tree_addFirst (c_Tree_addFirst X.1 w3 (x + 52) (S_ S a).1 y (wf_up hwf (by omega)) (by omega) h3.2) rfl h3.2.1 (As := [.int y]) rfl rfl rfl (Nat.le_of_ble_eq_true rfl) ⟨rfl, rfl, by decide, by decide⟩ ⟨by decide, by decide⟩ (kV (fun w4 h4 => ?_))
      have hC4 := hC3.scr (by omega) h4.1 h4.2
      refine g_aldn C d_Cls_prepend_39 rfl ?_
      refine g_callV (ci := kCls) C d_Cls_prepend_40 cw_Cls_53 sl_Cls_keepResult (c_Cls_keepResult X.1 w4 x S ed ts O (addBeg (S_ S a).1 y) (wf_up (addBeg_wf hwf (by omega) y) (by omega)) (by omega) hC4 h4.2) rfl hC4.1 (As := []) rfl rfl rfl (Nat.le_of_ble_eq_true rfl) ⟨rfl, rfl, by decide, by decide⟩ ⟨by decide, by decide⟩ (kI (fun r w9 h9 => ?_))
      exact g_iret C Rr d_Cls_prepend_43 rfl (by decide) (by decide) ⟨_, rfl, mkP.of (by unfold sPre sGrow; rw [if_neg (fun z => z hv), if_neg h40, vT_N ha31, if_neg (by omega)]) ((Fr.rf.sm h3.1 (by omega)).sm h4.1 (by omega)) h9⟩
    · exfalso; omega
theorem TreeV.put {w : gW} {t h : Nat} {T : Tr} {c : Nat} {y : Int32} (hc : c < 2 ^ 31) (hT : TreeV w t (va_up (trs T) 0 ((trs T 0).set c y)) h) (hh : T.2.2 = h) : TreeV w t (trs (setT T (nI c) y)) (setT T (nI c) y).2.2 := by
  refine hT.congr (fun k hk => ?_) hh
  by_cases e : k = 0
  · subst e; rw [va_up_self]; show (T.1.set (nI c).toInt.toNat y) = _; rw [nI_tn hc]; rfl
  · rw [va_up_ne _ _ e, trs_p _ (by omega), trs_p _ (by omega)]; rfl
set_option maxRecDepth 100000 in
set_option maxHeartbeats 4000000 in
theorem c_Cls_set (N : gN) (w : gW) (x : Nat) (S : St) (ed : Nat) (ts : List Nat) (O : Nat → Int32) (v i y : Int32) (hC : ClsV w x S ed ts O) : CtN N y_Cls_set b_Cls_set 4 (some FieldType.int) (rmm 8 190 17 663) [.ref x, .int v, .int i, .int y] w (pI (fun r w' => mkP w x (sSet S v i y) r w')) 17 663 := by
  refine ct_intro N [some (.ref x), some (.int v), some (.int i), some (.int y)] (by decide) rfl (Nat.le_of_ble_eq_true rfl) (by simp [Value.category]) ?_
  intro X hX C Rr
  obtain ⟨c0, cA, cO, ⟨⟨rs1, h1, cs1⟩, ⟨rs2, h2, cs2⟩, ⟨rs3, h3, cs3⟩⟩, ⟨cl, ck⟩, cT, ⟨cf, cf0⟩, cg, cm, ⟨cd, cz, ce, cx⟩⟩ := id hC
  have ck40 := ck.2.1
  refine g_aldn C d_Cls_set_0 rfl ?_
  refine g_ldn C d_Cls_set_1 rfl ?_
  by_cases hv : frz S v
  · refine g_callV (ci := kCls) C d_Cls_set_2 cw_Cls_60 sl_Cls_isFrozen (c_Cls_isFrozen X.1 w x S ed ts O (v) hC) rfl hC.1 (As := [.int (v)]) rfl rfl rfl (Nat.le_of_ble_eq_true rfl) ⟨rfl, rfl, by decide, by decide⟩ ⟨by decide, by decide⟩ (kI (fun r w2 h2 => ?_))
    rw [h2.1, h2.2, if_pos hv]
    refine g_if_eq C 17 d_Cls_set_5 (by decide) (by first | exact nI_toInt (by omega) | rfl) (fun b5 => ?_) (fun b5 => ?_)
    · exfalso; omega
    · refine g_aldn C d_Cls_set_8 rfl ?_
      refine g_ldn C d_Cls_set_9 rfl ?_
      refine g_ldn C d_Cls_set_10 rfl ?_
      by_cases hp : plc S v i
      · refine g_callV (ci := kCls) C d_Cls_set_11 cw_Cls_64 sl_Cls_isPlace (c_Cls_isPlace X.1 w x S ed ts O (v) (i) hC) rfl hC.1 (As := [.int (v), .int (i)]) rfl rfl rfl (Nat.le_of_ble_eq_true rfl) ⟨rfl, rfl, by decide, by decide⟩ ⟨by decide, by decide⟩ (kI (fun r w2 h2 => ?_))
        rw [h2.1, h2.2, if_pos ⟨hv.1, hp⟩]
        refine g_if_ne C 19 d_Cls_set_14 (by decide) (by first | exact nI_toInt (by omega) | rfl) (fun b14 => ?_) (fun b14 => ?_)
        · refine g_aldn C d_Cls_set_19 rfl ?_
          by_cases h40 : 40 ≤ S.length
          · refine g_callV (ci := kCls) C d_Cls_set_20 cw_Cls_68 sl_Cls_isFull (c_Cls_isFull X.1 w x S ed ts O  hC) rfl hC.1 (As := []) rfl rfl rfl (Nat.le_of_ble_eq_true rfl) ⟨rfl, rfl, by decide, by decide⟩ ⟨by decide, by decide⟩ (kI (fun r w2 h2 => ?_))
            rw [h2.1, h2.2, if_pos h40]
            refine g_if_eq C 29 d_Cls_set_23 (by decide) (by first | exact nI_toInt (by omega) | rfl) (fun b23 => ?_) (fun b23 => ?_)
            · exfalso; omega
            · refine g_bipush (v := (-2)) C d_Cls_set_26 (by decide) ?_
              exact g_iret C Rr d_Cls_set_28 rfl (by decide) (by decide) ⟨_, rfl, mkP.same hC (by unfold sSet; rw [if_neg (fun z => z ⟨hv, hp⟩), if_pos h40])⟩
          · refine g_callV (ci := kCls) C d_Cls_set_20 cw_Cls_68 sl_Cls_isFull (c_Cls_isFull X.1 w x S ed ts O  hC) rfl hC.1 (As := []) rfl rfl rfl (Nat.le_of_ble_eq_true rfl) ⟨rfl, rfl, by decide, by decide⟩ ⟨by decide, by decide⟩ (kI (fun r w2 h2 => ?_))
            rw [h2.1, h2.2, if_neg h40]
            refine g_if_eq C 29 d_Cls_set_23 (by decide) (by first | exact nI_toInt (by omega) | rfl) (fun b23 => ?_) (fun b23 => ?_)
            · obtain ⟨a, ha, rfl⟩ := vOk_ex hv.1
              have ha31 : a < 2 ^ 31 := by omega
              have hT := cT a ha
              have hwf := hC.wf ha
              have hl := hwf.1
              have hh := hwf.2.1
              have ga := cg a ha
              obtain ⟨c, hc, rfl⟩ := plc_ex hp
              rw [vT_N ha31] at hc
              refine g_aldn C d_Cls_set_29 rfl ?_
              refine g_get C d_Cls_set_30 fl_Cls_34 hC.1 (by rfl) ?_
              refine g_aldn C d_Cls_set_33 rfl ?_
              refine g_get C d_Cls_set_34 fl_Cls_12 hC.1 (by rfl) ?_
              refine g_ldn C d_Cls_set_37 rfl ?_
              refine q_get C d_Cls_set_38 d_Cls_set_41 hC (by omega) rfl (Nat.le_of_ble_eq_true rfl) (by decide) (by decide) (by decide) (by decide) ?_
              refine g_callV (ci := kTree) C d_Cls_set_44 cw_Cls_45 sl_Tree_become (c_Tree_become X.1 w (x + 52) (gd 0 ts a) _ _ _ _ (by omega) cs3 hT) rfl cs3.1 (As := [.ref (gd 0 ts a)]) rfl rfl rfl (Nat.le_of_ble_eq_true rfl) ⟨rfl, rfl, by decide, by decide⟩ ⟨by decide, by decide⟩ (kV (fun w3 h3 => ?_))
              have hC3 := hC.scr (by omega) h3.1 h3.2
              refine g_aldn C d_Cls_set_47 rfl ?_
              refine g_get C d_Cls_set_48 fl_Cls_34 hC3.1 (by rfl) ?_
              refine g_ldn C d_Cls_set_51 rfl ?_
              refine g_ldn C d_Cls_set_52 rfl ?_
              refine g_callV (ci := kTree) C d_Cls_set_53 cw_Cls_72 sl_Tree_replace (c_Tree_replace X.1 w3 (x + 52) _ _ c y (by omega) h3.2) rfl h3.2.1 (As := [.int (nI c), .int y]) rfl rfl rfl (Nat.le_of_ble_eq_true rfl) ⟨rfl, rfl, by decide, by decide⟩ ⟨by decide, by decide⟩ (kV (fun w4 h4 => ?_))
              have hC4 := hC3.scr (by omega) h4.1 h4.2
              have hP := TreeV.put (by omega) h4.2 rfl
              refine g_aldn C d_Cls_set_56 rfl ?_
              refine g_callV (ci := kCls) C d_Cls_set_57 cw_Cls_53 sl_Cls_keepResult (c_Cls_keepResult X.1 w4 x S ed ts O (setT (S_ S a).1 (nI c) y) (setT_wf (wf_up hwf (by omega)) _ _) (by omega) hC4 hP) rfl hC4.1 (As := []) rfl rfl rfl (Nat.le_of_ble_eq_true rfl) ⟨rfl, rfl, by decide, by decide⟩ ⟨by decide, by decide⟩ (kI (fun r w9 h9 => ?_))
              exact g_iret C Rr d_Cls_set_60 rfl (by decide) (by decide) ⟨_, rfl, mkP.of (by unfold sSet; rw [if_neg (fun z => z ⟨hv, hp⟩), if_neg h40, vT_N ha31]) ((Fr.rf.sm h3.1 (by omega)).sm h4.1 (by omega)) h9⟩
            · exfalso; omega
        · exfalso; omega
      · refine g_callV (ci := kCls) C d_Cls_set_11 cw_Cls_64 sl_Cls_isPlace (c_Cls_isPlace X.1 w x S ed ts O (v) (i) hC) rfl hC.1 (As := [.int (v), .int (i)]) rfl rfl rfl (Nat.le_of_ble_eq_true rfl) ⟨rfl, rfl, by decide, by decide⟩ ⟨by decide, by decide⟩ (kI (fun r w2 h2 => ?_))
        rw [h2.1, h2.2, if_neg (fun z => hp z.2)]
        refine g_if_ne C 19 d_Cls_set_14 (by decide) (by first | exact nI_toInt (by omega) | rfl) (fun b14 => ?_) (fun b14 => ?_)
        · exfalso; omega
        · refine g_iconst (v := -1) C d_Cls_set_17 rfl ?_
          exact g_iret C Rr d_Cls_set_18 rfl (by decide) (by decide) ⟨_, rfl, mkP.same hC (by unfold sSet; rw [if_pos (fun z => hp z.2)])⟩
  · refine g_callV (ci := kCls) C d_Cls_set_2 cw_Cls_60 sl_Cls_isFrozen (c_Cls_isFrozen X.1 w x S ed ts O (v) hC) rfl hC.1 (As := [.int (v)]) rfl rfl rfl (Nat.le_of_ble_eq_true rfl) ⟨rfl, rfl, by decide, by decide⟩ ⟨by decide, by decide⟩ (kI (fun r w2 h2 => ?_))
    rw [h2.1, h2.2, if_neg hv]
    refine g_if_eq C 17 d_Cls_set_5 (by decide) (by first | exact nI_toInt (by omega) | rfl) (fun b5 => ?_) (fun b5 => ?_)
    · refine g_iconst (v := -1) C d_Cls_set_17 rfl ?_
      exact g_iret C Rr d_Cls_set_18 rfl (by decide) (by decide) ⟨_, rfl, mkP.same hC (by unfold sSet; rw [if_pos (fun z => hv z.1)])⟩
    · exfalso; omega
set_option maxRecDepth 100000 in
set_option maxHeartbeats 4000000 in
theorem c_Cls_removeAt (N : gN) (w : gW) (x : Nat) (S : St) (ed : Nat) (ts : List Nat) (O : Nat → Int32) (v i : Int32) (hC : ClsV w x S ed ts O) : CtN N y_Cls_removeAt b_Cls_removeAt 4 (some FieldType.int) (rmm 8 190 17 663) [.ref x, .int v, .int i] w (pI (fun r w' => mkP w x (sRem S v i) r w')) 17 663 := by
  refine ct_intro N [some (.ref x), some (.int v), some (.int i), none] (by decide) rfl (Nat.le_of_ble_eq_true rfl) (by simp [Value.category]) ?_
  intro X hX C Rr
  obtain ⟨c0, cA, cO, ⟨⟨rs1, h1, cs1⟩, ⟨rs2, h2, cs2⟩, ⟨rs3, h3, cs3⟩⟩, ⟨cl, ck⟩, cT, ⟨cf, cf0⟩, cg, cm, ⟨cd, cz, ce, cx⟩⟩ := id hC
  have ck40 := ck.2.1
  refine g_aldn C d_Cls_removeAt_0 rfl ?_
  refine g_ldn C d_Cls_removeAt_1 rfl ?_
  by_cases hv : frz S v
  · refine g_callV (ci := kCls) C d_Cls_removeAt_2 cw_Cls_60 sl_Cls_isFrozen (c_Cls_isFrozen X.1 w x S ed ts O (v) hC) rfl hC.1 (As := [.int (v)]) rfl rfl rfl (Nat.le_of_ble_eq_true rfl) ⟨rfl, rfl, by decide, by decide⟩ ⟨by decide, by decide⟩ (kI (fun r w2 h2 => ?_))
    rw [h2.1, h2.2, if_pos hv]
    refine g_if_eq C 17 d_Cls_removeAt_5 (by decide) (by first | exact nI_toInt (by omega) | rfl) (fun b5 => ?_) (fun b5 => ?_)
    · exfalso; omega
    · refine g_aldn C d_Cls_removeAt_8 rfl ?_
      refine g_ldn C d_Cls_removeAt_9 rfl ?_
      refine g_ldn C d_Cls_removeAt_10 rfl ?_
      by_cases hp : plc S v i
      · refine g_callV (ci := kCls) C d_Cls_removeAt_11 cw_Cls_64 sl_Cls_isPlace (c_Cls_isPlace X.1 w x S ed ts O (v) (i) hC) rfl hC.1 (As := [.int (v), .int (i)]) rfl rfl rfl (Nat.le_of_ble_eq_true rfl) ⟨rfl, rfl, by decide, by decide⟩ ⟨by decide, by decide⟩ (kI (fun r w2 h2 => ?_))
        rw [h2.1, h2.2, if_pos ⟨hv.1, hp⟩]
        refine g_if_ne C 19 d_Cls_removeAt_14 (by decide) (by first | exact nI_toInt (by omega) | rfl) (fun b14 => ?_) (fun b14 => ?_)
        · refine g_aldn C d_Cls_removeAt_19 rfl ?_
          by_cases h40 : 40 ≤ S.length
          · refine g_callV (ci := kCls) C d_Cls_removeAt_20 cw_Cls_68 sl_Cls_isFull (c_Cls_isFull X.1 w x S ed ts O  hC) rfl hC.1 (As := []) rfl rfl rfl (Nat.le_of_ble_eq_true rfl) ⟨rfl, rfl, by decide, by decide⟩ ⟨by decide, by decide⟩ (kI (fun r w2 h2 => ?_))
            rw [h2.1, h2.2, if_pos h40]
            refine g_if_eq C 29 d_Cls_removeAt_23 (by decide) (by first | exact nI_toInt (by omega) | rfl) (fun b23 => ?_) (fun b23 => ?_)
            · exfalso; omega
            · refine g_bipush (v := (-2)) C d_Cls_removeAt_26 (by decide) ?_
              exact g_iret C Rr d_Cls_removeAt_28 rfl (by decide) (by decide) ⟨_, rfl, mkP.same hC (by unfold sRem; rw [if_neg (fun z => z ⟨hv, hp⟩), if_pos h40])⟩
          · refine g_callV (ci := kCls) C d_Cls_removeAt_20 cw_Cls_68 sl_Cls_isFull (c_Cls_isFull X.1 w x S ed ts O  hC) rfl hC.1 (As := []) rfl rfl rfl (Nat.le_of_ble_eq_true rfl) ⟨rfl, rfl, by decide, by decide⟩ ⟨by decide, by decide⟩ (kI (fun r w2 h2 => ?_))
            rw [h2.1, h2.2, if_neg h40]
            refine g_if_eq C 29 d_Cls_removeAt_23 (by decide) (by first | exact nI_toInt (by omega) | rfl) (fun b23 => ?_) (fun b23 => ?_)
            · obtain ⟨a, ha, rfl⟩ := vOk_ex hv.1
              have ha31 : a < 2 ^ 31 := by omega
              have hT := cT a ha
              have hwf := hC.wf ha
              have hl := hwf.1
              have hh := hwf.2.1
              have ga := cg a ha
              obtain ⟨c, hc, rfl⟩ := plc_ex hp
              rw [vT_N ha31] at hc
              refine g_aldn C d_Cls_removeAt_29 rfl ?_
              refine g_get C d_Cls_removeAt_30 fl_Cls_12 hC.1 (by rfl) ?_
              refine g_ldn C d_Cls_removeAt_33 rfl ?_
              refine q_get C d_Cls_removeAt_34 d_Cls_removeAt_37 hC (by omega) rfl (Nat.le_of_ble_eq_true rfl) (by decide) (by decide) (by decide) (by decide) ?_
              refine g_astn C [_, _, _, _] d_Cls_removeAt_40 (Nat.le_of_ble_eq_true rfl) rfl ?_
              refine g_aldn C d_Cls_removeAt_41 rfl ?_
              refine g_get C d_Cls_removeAt_42 fl_Cls_27 hC.1 (by rfl) ?_
              refine g_aldn C d_Cls_removeAt_45 rfl ?_
              refine g_iconst (v := nI 0) C d_Cls_removeAt_46 rfl ?_
              refine g_ldn C d_Cls_removeAt_47 rfl ?_
              refine g_callV (ci := kTree) C d_Cls_removeAt_48 cw_Cls_83 sl_Tree_cut (c_Tree_cut X.1 w (x + 20) (gd 0 ts a) _ _ (S_ S a).1 (0) (c) (by omega) (by omega) (by omega) hwf cs1 hT) rfl cs1.1 (As := [.ref (gd 0 ts a), .int (nI (0)), .int (nI (c))]) rfl rfl rfl (Nat.le_of_ble_eq_true rfl) ⟨rfl, rfl, by decide, by decide⟩ ⟨by decide, by decide⟩ (kV (fun w3 h3 => ?_))
              have hC3 := hC.scr (by omega) h3.1 h3.2
              have hT3 := hT.sm h3.1 (by omega)
              have cs23 := cs2.sm h3.1 (by omega)
              have cs33 := cs3.sm h3.1 (by omega)
              refine g_aldn C d_Cls_removeAt_51 rfl ?_
              refine g_get C d_Cls_removeAt_52 fl_Cls_31 hC3.1 (by rfl) ?_
              refine g_aldn C d_Cls_removeAt_55 rfl ?_
              refine g_ldn C d_Cls_removeAt_56 rfl ?_
              refine g_iconst (v := nI 1) C d_Cls_removeAt_57 rfl ?_
              first | refine g_addN C d_Cls_removeAt_58 ?_ | refine g_add C d_Cls_removeAt_58 ?_
              refine g_aldn C d_Cls_removeAt_59 rfl ?_
              refine q_len C d_Cls_removeAt_60 (by assumption) rfl (Nat.le_of_ble_eq_true rfl) (by decide) (by decide) (by decide) (by decide) ?_
              refine g_callV (ci := kTree) C d_Cls_removeAt_63 cw_Cls_83 sl_Tree_cut (c_Tree_cut X.1 w3 (x + 36) (gd 0 ts a) _ _ (S_ S a).1 (c + 1) ((S_ S a).1.1.length) (by omega) (by omega) (by omega) hwf cs23 hT3) rfl cs23.1 (As := [.ref (gd 0 ts a), .int (nI (c + 1)), .int (nI ((S_ S a).1.1.length))]) rfl rfl rfl (Nat.le_of_ble_eq_true rfl) ⟨rfl, rfl, by decide, by decide⟩ ⟨by decide, by decide⟩ (kV (fun w4 h4 => ?_))
              have hC4 := hC3.scr (by omega) h4.1 h4.2
              have cs34 := cs33.sm h4.1 (by omega)
              have cL4 := h3.2.sm h4.1 (by omega)
              have hll : (cutT (S_ S a).1 0 c).1.length + (cutT (S_ S a).1 (c + 1) (S_ S a).1.1.length).1.length ≤ 80 := by unfold cutT; simp; omega
              have wP : wfT 4 (cutT (S_ S a).1 0 c) := cutT_wf hwf (by omega) (by omega)
              have wQ : wfT 4 (cutT (S_ S a).1 (c + 1) (S_ S a).1.1.length) := cutT_wf hwf (by omega) (by omega)
              refine g_aldn C d_Cls_removeAt_66 rfl ?_
              refine g_get C d_Cls_removeAt_67 fl_Cls_34 hC4.1 (by rfl) ?_
              refine g_aldn C d_Cls_removeAt_70 rfl ?_
              refine g_get C d_Cls_removeAt_71 fl_Cls_27 hC4.1 (by rfl) ?_
              refine g_aldn C d_Cls_removeAt_74 rfl ?_
              refine g_get C d_Cls_removeAt_75 fl_Cls_31 hC4.1 (by rfl) ?_
              refine g_callV (ci := kTree) C d_Cls_removeAt_78 cw_Cls_79 sl_Tree_join (c_Tree_join X.1 w4 (x + 52) (x + 20) (x + 36) _ _ (cutT (S_ S a).1 0 c) (cutT (S_ S a).1 (c + 1) (S_ S a).1.1.length) (by omega) (by omega) hll (wf_up wP (by omega)) (wf_up wQ (by omega)) cs34 cL4 h4.2) rfl cs34.1 (As := [.ref (x + 20), .ref (x + 36)]) rfl rfl rfl (Nat.le_of_ble_eq_true rfl) ⟨rfl, rfl, by decide, by decide⟩ ⟨by decide, by decide⟩ (kV (fun w5 h5 => ?_))
              have hC5 := hC4.scr (by omega) h5.1 h5.2
              refine g_aldn C d_Cls_removeAt_81 rfl ?_
              refine g_callV (ci := kCls) C d_Cls_removeAt_82 cw_Cls_53 sl_Cls_keepResult (c_Cls_keepResult X.1 w5 x S ed ts O (joinT (cutT (S_ S a).1 0 c) (cutT (S_ S a).1 (c + 1) (S_ S a).1.1.length)) (wf_up (joinT_wf wP wQ hll) (by omega)) (by omega) hC5 h5.2) rfl hC5.1 (As := []) rfl rfl rfl (Nat.le_of_ble_eq_true rfl) ⟨rfl, rfl, by decide, by decide⟩ ⟨by decide, by decide⟩ (kI (fun r w9 h9 => ?_))
              exact g_iret C Rr d_Cls_removeAt_85 rfl (by decide) (by decide) ⟨_, rfl, mkP.of (by unfold sRem; rw [if_neg (fun z => z ⟨hv, hp⟩), if_neg h40, vT_N ha31, nI_tn (by omega)]) (((Fr.rf.sm h3.1 (by omega)).sm h4.1 (by omega)).sm h5.1 (by omega)) h9⟩
            · exfalso; omega
        · exfalso; omega
      · refine g_callV (ci := kCls) C d_Cls_removeAt_11 cw_Cls_64 sl_Cls_isPlace (c_Cls_isPlace X.1 w x S ed ts O (v) (i) hC) rfl hC.1 (As := [.int (v), .int (i)]) rfl rfl rfl (Nat.le_of_ble_eq_true rfl) ⟨rfl, rfl, by decide, by decide⟩ ⟨by decide, by decide⟩ (kI (fun r w2 h2 => ?_))
        rw [h2.1, h2.2, if_neg (fun z => hp z.2)]
        refine g_if_ne C 19 d_Cls_removeAt_14 (by decide) (by first | exact nI_toInt (by omega) | rfl) (fun b14 => ?_) (fun b14 => ?_)
        · exfalso; omega
        · refine g_iconst (v := -1) C d_Cls_removeAt_17 rfl ?_
          exact g_iret C Rr d_Cls_removeAt_18 rfl (by decide) (by decide) ⟨_, rfl, mkP.same hC (by unfold sRem; rw [if_pos (fun z => hp z.2)])⟩
  · refine g_callV (ci := kCls) C d_Cls_removeAt_2 cw_Cls_60 sl_Cls_isFrozen (c_Cls_isFrozen X.1 w x S ed ts O (v) hC) rfl hC.1 (As := [.int (v)]) rfl rfl rfl (Nat.le_of_ble_eq_true rfl) ⟨rfl, rfl, by decide, by decide⟩ ⟨by decide, by decide⟩ (kI (fun r w2 h2 => ?_))
    rw [h2.1, h2.2, if_neg hv]
    refine g_if_eq C 17 d_Cls_removeAt_5 (by decide) (by first | exact nI_toInt (by omega) | rfl) (fun b5 => ?_) (fun b5 => ?_)
    · refine g_iconst (v := -1) C d_Cls_removeAt_17 rfl ?_
      exact g_iret C Rr d_Cls_removeAt_18 rfl (by decide) (by decide) ⟨_, rfl, mkP.same hC (by unfold sRem; rw [if_pos (fun z => hv z.1)])⟩
    · exfalso; omega
set_option maxRecDepth 100000 in
set_option maxHeartbeats 4000000 in
theorem c_Cls_put (N : gN) (w : gW) (x : Nat) (S : St) (ed : Nat) (ts : List Nat) (O : Nat → Int32) (v i y : Int32) (hC : ClsV w x S ed ts O) : CtN N y_Cls_put b_Cls_put 4 (some FieldType.boolean) (rmm 4 86 0 0) [.ref x, .int v, .int i, .int y] w (pI (fun r w' => mkP w x (sPut S v i y) r w')) 0 0 := by
  refine ct_intro N [some (.ref x), some (.int v), some (.int i), some (.int y)] (by decide) rfl (Nat.le_of_ble_eq_true rfl) (by simp [Value.category]) ?_
  intro X hX C Rr
  obtain ⟨c0, cA, cO, ⟨⟨rs1, h1, cs1⟩, ⟨rs2, h2, cs2⟩, ⟨rs3, h3, cs3⟩⟩, ⟨cl, ck⟩, cT, ⟨cf, cf0⟩, cg, cm, ⟨cd, cz, ce, cx⟩⟩ := id hC
  have ck40 := ck.2.1
  refine g_aldn C d_Cls_put_0 rfl ?_
  refine g_ldn C d_Cls_put_1 rfl ?_
  by_cases hv : opn S v
  · refine g_callV (ci := kCls) C d_Cls_put_2 cw_Cls_87 sl_Cls_isOpen (c_Cls_isOpen X.1 w x S ed ts O (v) hC) rfl hC.1 (As := [.int (v)]) rfl rfl rfl (Nat.le_of_ble_eq_true rfl) ⟨rfl, rfl, by decide, by decide⟩ ⟨by decide, by decide⟩ (kI (fun r w2 h2 => ?_))
    rw [h2.1, h2.2, if_pos hv]
    refine g_if_eq C 17 d_Cls_put_5 (by decide) (by first | exact nI_toInt (by omega) | rfl) (fun b5 => ?_) (fun b5 => ?_)
    · exfalso; omega
    · refine g_aldn C d_Cls_put_8 rfl ?_
      refine g_ldn C d_Cls_put_9 rfl ?_
      refine g_ldn C d_Cls_put_10 rfl ?_
      by_cases hp : plc S v i
      · refine g_callV (ci := kCls) C d_Cls_put_11 cw_Cls_64 sl_Cls_isPlace (c_Cls_isPlace X.1 w x S ed ts O (v) (i) hC) rfl hC.1 (As := [.int (v), .int (i)]) rfl rfl rfl (Nat.le_of_ble_eq_true rfl) ⟨rfl, rfl, by decide, by decide⟩ ⟨by decide, by decide⟩ (kI (fun r w2 h2 => ?_))
        rw [h2.1, h2.2, if_pos ⟨hv.1, hp⟩]
        refine g_if_ne C 19 d_Cls_put_14 (by decide) (by first | exact nI_toInt (by omega) | rfl) (fun b14 => ?_) (fun b14 => ?_)
        · obtain ⟨a, ha, rfl⟩ := vOk_ex hv.1
          have ha31 : a < 2 ^ 31 := by omega
          have hT := cT a ha
          have hwf := hC.wf ha
          have hl := hwf.1
          have hh := hwf.2.1
          have ga := cg a ha
          obtain ⟨c, hc, rfl⟩ := plc_ex hp
          rw [vT_N ha31] at hc
          refine g_aldn C d_Cls_put_19 rfl ?_
          refine g_get C d_Cls_put_20 fl_Cls_12 hC.1 (by rfl) ?_
          refine g_ldn C d_Cls_put_23 rfl ?_
          refine q_get C d_Cls_put_24 d_Cls_put_27 hC (by omega) rfl (Nat.le_of_ble_eq_true rfl) (by decide) (by decide) (by decide) (by decide) ?_
          refine g_ldn C d_Cls_put_30 rfl ?_
          refine g_ldn C d_Cls_put_31 rfl ?_
          refine g_callV (ci := kTree) C d_Cls_put_32 cw_Cls_72 sl_Tree_replace (c_Tree_replace X.1 w _ _ _ c y (by omega) hT) rfl hT.1 (As := [.int (nI c), .int y]) rfl rfl rfl (Nat.le_of_ble_eq_true rfl) ⟨rfl, rfl, by decide, by decide⟩ ⟨by decide, by decide⟩ (kV (fun w3 h3 => ?_))
          have hC3 := hC.ver ha (b := true) (by rw [← vO_N ha31]; exact hv.2.symm) (setT_wf hwf (nI c) y) h3.1 (TreeV.put (by omega) h3.2 rfl)
          refine g_iconst (v := nI 1) C d_Cls_put_35 rfl ?_
          exact g_iret C Rr d_Cls_put_36 rfl (by decide) (by decide) ⟨_, rfl, by unfold sPut; rw [if_neg (fun z => z ⟨hv, hp⟩)]; rfl, ⟨_, _, _, by unfold sPut; rw [if_neg (fun z => z ⟨hv, hp⟩), vT_N ha31, nI_tn ha31]; exact hC3⟩, Fr.rf.sm h3.1 (by omega)⟩
        · exfalso; omega
      · refine g_callV (ci := kCls) C d_Cls_put_11 cw_Cls_64 sl_Cls_isPlace (c_Cls_isPlace X.1 w x S ed ts O (v) (i) hC) rfl hC.1 (As := [.int (v), .int (i)]) rfl rfl rfl (Nat.le_of_ble_eq_true rfl) ⟨rfl, rfl, by decide, by decide⟩ ⟨by decide, by decide⟩ (kI (fun r w2 h2 => ?_))
        rw [h2.1, h2.2, if_neg (fun z => hp z.2)]
        refine g_if_ne C 19 d_Cls_put_14 (by decide) (by first | exact nI_toInt (by omega) | rfl) (fun b14 => ?_) (fun b14 => ?_)
        · exfalso; omega
        · refine g_iconst (v := nI 0) C d_Cls_put_17 rfl ?_
          exact g_iret C Rr d_Cls_put_18 rfl (by decide) (by decide) ⟨_, rfl, mkP.same hC (by unfold sPut; rw [if_pos (fun z => hp z.2)]; rfl)⟩
  · refine g_callV (ci := kCls) C d_Cls_put_2 cw_Cls_87 sl_Cls_isOpen (c_Cls_isOpen X.1 w x S ed ts O (v) hC) rfl hC.1 (As := [.int (v)]) rfl rfl rfl (Nat.le_of_ble_eq_true rfl) ⟨rfl, rfl, by decide, by decide⟩ ⟨by decide, by decide⟩ (kI (fun r w2 h2 => ?_))
    rw [h2.1, h2.2, if_neg hv]
    refine g_if_eq C 17 d_Cls_put_5 (by decide) (by first | exact nI_toInt (by omega) | rfl) (fun b5 => ?_) (fun b5 => ?_)
    · refine g_iconst (v := nI 0) C d_Cls_put_17 rfl ?_
      exact g_iret C Rr d_Cls_put_18 rfl (by decide) (by decide) ⟨_, rfl, mkP.same hC (by unfold sPut; rw [if_pos (fun z => hv z.1)]; rfl)⟩
    · exfalso; omega
set_option maxRecDepth 100000 in
set_option maxHeartbeats 4000000 in
theorem c_Cls_freeze (N : gN) (w : gW) (x : Nat) (S : St) (ed : Nat) (ts : List Nat) (O : Nat → Int32) (v : Int32) (hC : ClsV w x S ed ts O) : CtN N y_Cls_freeze b_Cls_freeze 2 (some FieldType.boolean) (rmm 3 62 0 0) [.ref x, .int v] w (pI (fun r w' => mkP w x (sFrz S v) r w')) 0 0 := by
  refine ct_intro N [some (.ref x), some (.int v)] (by decide) rfl (Nat.le_of_ble_eq_true rfl) (by simp [Value.category]) ?_
  intro X hX C Rr
  obtain ⟨c0, cA, cO, ⟨⟨rs1, h1, cs1⟩, ⟨rs2, h2, cs2⟩, ⟨rs3, h3, cs3⟩⟩, ⟨cl, ck⟩, cT, ⟨cf, cf0⟩, cg, cm, ⟨cd, cz, ce, cx⟩⟩ := id hC
  have ck40 := ck.2.1
  refine g_aldn C d_Cls_freeze_0 rfl ?_
  refine g_ldn C d_Cls_freeze_1 rfl ?_
  by_cases hv : opn S v
  · refine g_callV (ci := kCls) C d_Cls_freeze_2 cw_Cls_87 sl_Cls_isOpen (c_Cls_isOpen X.1 w x S ed ts O (v) hC) rfl hC.1 (As := [.int (v)]) rfl rfl rfl (Nat.le_of_ble_eq_true rfl) ⟨rfl, rfl, by decide, by decide⟩ ⟨by decide, by decide⟩ (kI (fun r w2 h2 => ?_))
    rw [h2.1, h2.2, if_pos hv]
    refine g_if_ne C 10 d_Cls_freeze_5 (by decide) (by first | exact nI_toInt (by omega) | rfl) (fun b5 => ?_) (fun b5 => ?_)
    · obtain ⟨a, ha, rfl⟩ := vOk_ex hv.1
      have ha31 : a < 2 ^ 31 := by omega
      have hT := cT a ha
      have hwf := hC.wf ha
      have hl := hwf.1
      have hh := hwf.2.1
      have ga := cg a ha
      refine g_aldn C d_Cls_freeze_10 rfl ?_
      refine g_get C d_Cls_freeze_11 fl_Cls_23 hC.1 (by rfl) ?_
      refine g_ldn C d_Cls_freeze_14 rfl ?_
      refine g_iconst (v := nI 0) C d_Cls_freeze_15 rfl ?_
      refine g_zast C d_Cls_freeze_16 cO (by omega) (by decide) ?_
      have hC3 := hC.flag ha (b := false) (y := vp_nar .boolean (nI 0)) rfl
      refine g_iconst (v := nI 1) C d_Cls_freeze_17 rfl ?_
      exact g_iret C Rr d_Cls_freeze_18 rfl (by decide) (by decide) ⟨_, rfl, by unfold sFrz; rw [if_neg (fun z => z hv)]; rfl, ⟨_, _, _, by unfold sFrz; rw [if_neg (fun z => z hv), vT_N ha31, nI_tn ha31]; exact hC3⟩, Fr.rf.sm (Sm.set (lo := x + 19) (hi := x + 20) (by omega) (by omega)) (by omega)⟩
    · exfalso; omega
  · refine g_callV (ci := kCls) C d_Cls_freeze_2 cw_Cls_87 sl_Cls_isOpen (c_Cls_isOpen X.1 w x S ed ts O (v) hC) rfl hC.1 (As := [.int (v)]) rfl rfl rfl (Nat.le_of_ble_eq_true rfl) ⟨rfl, rfl, by decide, by decide⟩ ⟨by decide, by decide⟩ (kI (fun r w2 h2 => ?_))
    rw [h2.1, h2.2, if_neg hv]
    refine g_if_ne C 10 d_Cls_freeze_5 (by decide) (by first | exact nI_toInt (by omega) | rfl) (fun b5 => ?_) (fun b5 => ?_)
    · exfalso; omega
    · refine g_iconst (v := nI 0) C d_Cls_freeze_8 rfl ?_
      exact g_iret C Rr d_Cls_freeze_9 rfl (by decide) (by decide) ⟨_, rfl, mkP.same hC (by unfold sFrz; rw [if_pos hv]; rfl)⟩
theorem set_last (S : St) (a b : Tr × Bool) : (S ++ [a]).set S.length b = S ++ [b] := by simp
theorem gd_last (S : St) (a : Tr × Bool) : S_ (S ++ [a]) S.length = a := by rw [S_, gd_r (Nat.le_refl _), Nat.sub_self, gd_0]
set_option maxRecDepth 100000 in
set_option maxHeartbeats 4000000 in
theorem c_Cls_thaw (N : gN) (w : gW) (x : Nat) (S : St) (ed : Nat) (ts : List Nat) (O : Nat → Int32) (v : Int32) (hC : ClsV w x S ed ts O) : CtN N y_Cls_thaw b_Cls_thaw 3 (some FieldType.int) (rmm 8 190 17 663) [.ref x, .int v] w (pI (fun r w' => mkP w x (sThaw S v) r w')) 17 663 := by
  refine ct_intro N [some (.ref x), some (.int v), none] (by decide) rfl (Nat.le_of_ble_eq_true rfl) (by simp [Value.category]) ?_
  intro X hX C Rr
  obtain ⟨c0, cA, cO, ⟨⟨rs1, h1, cs1⟩, ⟨rs2, h2, cs2⟩, ⟨rs3, h3, cs3⟩⟩, ⟨cl, ck⟩, cT, ⟨cf, cf0⟩, cg, cm, ⟨cd, cz, ce, cx⟩⟩ := id hC
  have ck40 := ck.2.1
  refine g_aldn C d_Cls_thaw_0 rfl ?_
  refine g_ldn C d_Cls_thaw_1 rfl ?_
  by_cases hv : frz S v
  · refine g_callV (ci := kCls) C d_Cls_thaw_2 cw_Cls_60 sl_Cls_isFrozen (c_Cls_isFrozen X.1 w x S ed ts O (v) hC) rfl hC.1 (As := [.int (v)]) rfl rfl rfl (Nat.le_of_ble_eq_true rfl) ⟨rfl, rfl, by decide, by decide⟩ ⟨by decide, by decide⟩ (kI (fun r w2 h2 => ?_))
    rw [h2.1, h2.2, if_pos hv]
    refine g_if_ne C 10 d_Cls_thaw_5 (by decide) (by first | exact nI_toInt (by omega) | rfl) (fun b5 => ?_) (fun b5 => ?_)
    · refine g_aldn C d_Cls_thaw_10 rfl ?_
      by_cases h40 : 40 ≤ S.length
      · refine g_callV (ci := kCls) C d_Cls_thaw_11 cw_Cls_68 sl_Cls_isFull (c_Cls_isFull X.1 w x S ed ts O  hC) rfl hC.1 (As := []) rfl rfl rfl (Nat.le_of_ble_eq_true rfl) ⟨rfl, rfl, by decide, by decide⟩ ⟨by decide, by decide⟩ (kI (fun r w2 h2 => ?_))
        rw [h2.1, h2.2, if_pos h40]
        refine g_if_eq C 20 d_Cls_thaw_14 (by decide) (by first | exact nI_toInt (by omega) | rfl) (fun b14 => ?_) (fun b14 => ?_)
        · exfalso; omega
        · refine g_bipush (v := (-2)) C d_Cls_thaw_17 (by decide) ?_
          exact g_iret C Rr d_Cls_thaw_19 rfl (by decide) (by decide) ⟨_, rfl, mkP.same hC (by unfold sThaw; rw [if_neg (fun z => z hv), if_pos h40])⟩
      · refine g_callV (ci := kCls) C d_Cls_thaw_11 cw_Cls_68 sl_Cls_isFull (c_Cls_isFull X.1 w x S ed ts O  hC) rfl hC.1 (As := []) rfl rfl rfl (Nat.le_of_ble_eq_true rfl) ⟨rfl, rfl, by decide, by decide⟩ ⟨by decide, by decide⟩ (kI (fun r w2 h2 => ?_))
        rw [h2.1, h2.2, if_neg h40]
        refine g_if_eq C 20 d_Cls_thaw_14 (by decide) (by first | exact nI_toInt (by omega) | rfl) (fun b14 => ?_) (fun b14 => ?_)
        · obtain ⟨a, ha, rfl⟩ := vOk_ex hv.1
          have ha31 : a < 2 ^ 31 := by omega
          have hT := cT a ha
          have hwf := hC.wf ha
          have hl := hwf.1
          have hh := hwf.2.1
          have ga := cg a ha
          refine g_aldn C d_Cls_thaw_20 rfl ?_
          refine g_get C d_Cls_thaw_21 fl_Cls_34 hC.1 (by rfl) ?_
          refine g_aldn C d_Cls_thaw_24 rfl ?_
          refine g_get C d_Cls_thaw_25 fl_Cls_12 hC.1 (by rfl) ?_
          refine g_ldn C d_Cls_thaw_28 rfl ?_
          refine q_get C d_Cls_thaw_29 d_Cls_thaw_32 hC (by omega) rfl (Nat.le_of_ble_eq_true rfl) (by decide) (by decide) (by decide) (by decide) ?_
          refine g_callV (ci := kTree) C d_Cls_thaw_35 cw_Cls_45 sl_Tree_become (c_Tree_become X.1 w (x + 52) (gd 0 ts a) _ _ _ _ (by omega) cs3 hT) rfl cs3.1 (As := [.ref (gd 0 ts a)]) rfl rfl rfl (Nat.le_of_ble_eq_true rfl) ⟨rfl, rfl, by decide, by decide⟩ ⟨by decide, by decide⟩ (kV (fun w3 h3 => ?_))
          have hC3 := hC.scr (by omega) h3.1 h3.2
          refine g_aldn C d_Cls_thaw_38 rfl ?_
          refine g_callV (ci := kCls) C d_Cls_thaw_39 cw_Cls_53 sl_Cls_keepResult (c_Cls_keepResult X.1 w3 x S ed ts O (S_ S a).1 (wf_up hwf (by omega)) (by omega) hC3 h3.2) rfl hC3.1 (As := []) rfl rfl rfl (Nat.le_of_ble_eq_true rfl) ⟨rfl, rfl, by decide, by decide⟩ ⟨by decide, by decide⟩ (kI (fun r w9 h9 => ?_))
          obtain ⟨e9, ⟨ed9, ts9, O9, hC9⟩, f9⟩ := h9
          have ek : sKeep S (S_ S a).1 false = (nI S.length, S ++ [((S_ S a).1, false)]) := by unfold sKeep; rw [if_neg (by omega)]
          rw [ek] at e9 hC9
          rw [e9]
          refine g_stn C [_, _, _] d_Cls_thaw_42 (Nat.le_of_ble_eq_true rfl) rfl ?_
          refine g_ldn C d_Cls_thaw_43 rfl ?_
          refine g_if_lt C 54 d_Cls_thaw_44 (by decide) (by first | exact nI_toInt (by omega) | rfl) (fun b44 => ?_) (fun b44 => ?_)
          · exfalso; omega
          · refine g_aldn C d_Cls_thaw_47 rfl ?_
            refine g_get C d_Cls_thaw_48 fl_Cls_23 hC9.1 (by rfl) ?_
            refine g_ldn C d_Cls_thaw_51 rfl ?_
            refine g_iconst (v := nI 1) C d_Cls_thaw_52 rfl ?_
            have cO9 := hC9.2.2.1
            refine g_zast C d_Cls_thaw_53 cO9 (by omega) (by decide) ?_
            have hF := hC9.flag (a := S.length) (b := true) (y := vp_nar .boolean (nI 1)) (by simp) rfl
            simp only [gd_last, set_last] at hF
            refine g_ldn C d_Cls_thaw_54 rfl ?_
            exact g_iret C Rr d_Cls_thaw_55 rfl (by decide) (by decide) ⟨_, rfl, by unfold sThaw sKeep; rw [if_neg (fun z => z hv), if_neg h40, vT_N ha31, if_neg (by omega)], ⟨_, _, _, by unfold sThaw sKeep; rw [if_neg (fun z => z hv), if_neg h40, vT_N ha31, if_neg (by omega)]; exact hF⟩, ((Fr.rf.sm h3.1 (by omega)).trans f9).sm (Sm.set (lo := x + 19) (hi := x + 20) (by omega) (by omega)) (by omega)⟩
        · exfalso; omega
    · exfalso; omega
  · refine g_callV (ci := kCls) C d_Cls_thaw_2 cw_Cls_60 sl_Cls_isFrozen (c_Cls_isFrozen X.1 w x S ed ts O (v) hC) rfl hC.1 (As := [.int (v)]) rfl rfl rfl (Nat.le_of_ble_eq_true rfl) ⟨rfl, rfl, by decide, by decide⟩ ⟨by decide, by decide⟩ (kI (fun r w2 h2 => ?_))
    rw [h2.1, h2.2, if_neg hv]
    refine g_if_ne C 10 d_Cls_thaw_5 (by decide) (by first | exact nI_toInt (by omega) | rfl) (fun b5 => ?_) (fun b5 => ?_)
    · exfalso; omega
    · refine g_iconst (v := -1) C d_Cls_thaw_8 rfl ?_
      exact g_iret C Rr d_Cls_thaw_9 rfl (by decide) (by decide) ⟨_, rfl, mkP.same hC (by unfold sThaw; rw [if_pos hv])⟩
set_option maxRecDepth 100000 in
set_option maxHeartbeats 4000000 in
theorem c_Cls_push (N : gN) (w : gW) (x : Nat) (S : St) (ed : Nat) (ts : List Nat) (O : Nat → Int32) (v y : Int32) (hC : ClsV w x S ed ts O) : CtN N y_Cls_push b_Cls_push 3 (some FieldType.boolean) (rmm 3 67 0 0) [.ref x, .int v, .int y] w (pI (fun r w' => mkP w x (sPush S v y) r w')) 0 0 := by
  refine ct_intro N [some (.ref x), some (.int v), some (.int y)] (by decide) rfl (Nat.le_of_ble_eq_true rfl) (by simp [Value.category]) ?_
  intro X hX C Rr
  obtain ⟨c0, cA, cO, ⟨⟨rs1, h1, cs1⟩, ⟨rs2, h2, cs2⟩, ⟨rs3, h3, cs3⟩⟩, ⟨cl, ck⟩, cT, ⟨cf, cf0⟩, cg, cm, ⟨cd, cz, ce, cx⟩⟩ := id hC
  have ck40 := ck.2.1
  refine g_aldn C d_Cls_push_0 rfl ?_
  refine g_ldn C d_Cls_push_1 rfl ?_
  by_cases hv : opn S v
  · refine g_callV (ci := kCls) C d_Cls_push_2 cw_Cls_87 sl_Cls_isOpen (c_Cls_isOpen X.1 w x S ed ts O (v) hC) rfl hC.1 (As := [.int (v)]) rfl rfl rfl (Nat.le_of_ble_eq_true rfl) ⟨rfl, rfl, by decide, by decide⟩ ⟨by decide, by decide⟩ (kI (fun r w2 h2 => ?_))
    rw [h2.1, h2.2, if_pos hv]
    refine g_if_eq C 27 d_Cls_push_5 (by decide) (by first | exact nI_toInt (by omega) | rfl) (fun b5 => ?_) (fun b5 => ?_)
    · exfalso; omega
    · obtain ⟨a, ha, rfl⟩ := vOk_ex hv.1
      have ha31 : a < 2 ^ 31 := by omega
      have hT := cT a ha
      have hwf := hC.wf ha
      have hl := hwf.1
      have hh := hwf.2.1
      have ga := cg a ha
      refine g_aldn C d_Cls_push_8 rfl ?_
      refine g_get C d_Cls_push_9 fl_Cls_12 hC.1 (by rfl) ?_
      refine g_ldn C d_Cls_push_12 rfl ?_
      refine q_get C d_Cls_push_13 d_Cls_push_16 hC (by omega) rfl (Nat.le_of_ble_eq_true rfl) (by decide) (by decide) (by decide) (by decide) ?_
      refine q_len C d_Cls_push_19 (by assumption) rfl (Nat.le_of_ble_eq_true rfl) (by decide) (by decide) (by decide) (by decide) ?_
      refine g_bipush (v := nI 80) C d_Cls_push_22 (by decide) ?_
      refine g_icmp_lt C 29 d_Cls_push_24 (by decide) (by first | exact nI_toInt (by omega) | rfl) (by first | exact nI_toInt (by omega) | rfl) (fun b24 => ?_) (fun b24 => ?_)
      · refine g_aldn C d_Cls_push_29 rfl ?_
        refine g_get C d_Cls_push_30 fl_Cls_34 hC.1 (by rfl) ?_
        refine g_aldn C d_Cls_push_33 rfl ?_
        refine g_get C d_Cls_push_34 fl_Cls_12 hC.1 (by rfl) ?_
        refine g_ldn C d_Cls_push_37 rfl ?_
        refine q_get C d_Cls_push_38 d_Cls_push_41 hC (by omega) rfl (Nat.le_of_ble_eq_true rfl) (by decide) (by decide) (by decide) (by decide) ?_
        refine g_callV (ci := kTree) C d_Cls_push_44 cw_Cls_45 sl_Tree_become (c_Tree_become X.1 w (x + 52) (gd 0 ts a) _ _ _ _ (by omega) cs3 hT) rfl cs3.1 (As := [.ref (gd 0 ts a)]) rfl rfl rfl (Nat.le_of_ble_eq_true rfl) ⟨rfl, rfl, by decide, by decide⟩ ⟨by decide, by decide⟩ (kV (fun w3 h3 => ?_))
        have hC3 := hC.scr (by omega) h3.1 h3.2
        refine g_aldn C d_Cls_push_47 rfl ?_
        refine g_get C d_Cls_push_48 fl_Cls_34 hC3.1 (by rfl) ?_
        refine g_ldn C d_Cls_push_51 rfl ?_
        refine g_callV (ci := kTree) C d_Cls_push_52 cw_Cls_49 sl_Tree_addLast (c_Tree_addLast X.1 w3 (x + 52) (S_ S a).1 y (wf_up hwf (by omega)) (by omega) h3.2) rfl h3.2.1 (As := [.int y]) rfl rfl rfl (Nat.le_of_ble_eq_true rfl) ⟨rfl, rfl, by decide, by decide⟩ ⟨by decide, by decide⟩ (kV (fun w4 h4 => ?_))
        have hC4 := hC3.scr (by omega) h4.1 h4.2
        have hw5 := addEnd_wf hwf (by omega) y
        have h5 := hw5.2.1
        have h4T := h4.2
        have hn : ¬ (¬ opn S (nI a) ∨ 80 ≤ (vT S (nI a)).1.length) := by rw [vT_N ha31]; exact fun z => z.elim (fun q => q hv) (fun q => by omega)
        refine g_aldn C d_Cls_push_55 rfl ?_
        refine g_get C d_Cls_push_56 fl_Cls_34 hC4.1 (by rfl) ?_
        refine t_heiN C d_Cls_push_59 fn_Cls_90 (by assumption) ?_
        refine g_iconst (v := nI 4) C d_Cls_push_62 rfl ?_
        refine g_icmp_le C 68 d_Cls_push_63 (by decide) (by first | exact nI_toInt (by omega) | rfl) (by first | exact nI_toInt (by omega) | rfl) (fun b63 => ?_) (fun b63 => ?_)
        · refine g_aldn C d_Cls_push_68 rfl ?_
          refine g_get C d_Cls_push_69 fl_Cls_12 hC4.1 (by rfl) ?_
          refine g_ldn C d_Cls_push_72 rfl ?_
          refine q_get C d_Cls_push_73 d_Cls_push_76 hC4 (by omega) rfl (Nat.le_of_ble_eq_true rfl) (by decide) (by decide) (by decide) (by decide) ?_
          refine g_aldn C d_Cls_push_79 rfl ?_
          refine g_get C d_Cls_push_80 fl_Cls_34 hC4.1 (by rfl) ?_
          refine g_callV (ci := kTree) C d_Cls_push_83 cw_Cls_45 sl_Tree_become (c_Tree_become X.1 w4 (gd 0 ts a) (x + 52) _ _ _ _ (by omega) (hC4.tree ha) h4.2) rfl (hC4.tree ha).1 (As := [.ref (x + 52)]) rfl rfl rfl (Nat.le_of_ble_eq_true rfl) ⟨rfl, rfl, by decide, by decide⟩ ⟨by decide, by decide⟩ (kV (fun w5 h5 => ?_))
          have hC5 := hC4.ver ha (b := true) (by rw [← vO_N ha31]; exact hv.2.symm) (wf_low hw5 (by omega)) h5.1 h5.2
          refine g_iconst (v := nI 1) C d_Cls_push_86 rfl ?_
          exact g_iret C Rr d_Cls_push_87 rfl (by decide) (by decide) ⟨_, rfl, by unfold sPush; rw [if_neg hn, vT_N ha31, if_neg (by omega)]; rfl, ⟨_, _, _, by unfold sPush; rw [if_neg hn, vT_N ha31, if_neg (by omega)]; rw [nI_tn ha31]; exact hC5⟩, ((Fr.rf.sm h3.1 (by omega)).sm h4.1 (by omega)).sm h5.1 (by omega)⟩
        · refine g_iconst (v := nI 0) C d_Cls_push_66 rfl ?_
          exact g_iret C Rr d_Cls_push_67 rfl (by decide) (by decide) ⟨_, rfl, by unfold sPush; rw [if_neg hn, vT_N ha31, if_pos (by omega)]; rfl, ⟨_, _, _, by unfold sPush; rw [if_neg hn, vT_N ha31, if_pos (by omega)]; exact hC4⟩, (Fr.rf.sm h3.1 (by omega)).sm h4.1 (by omega)⟩
      · refine g_iconst (v := nI 0) C d_Cls_push_27 rfl ?_
        exact g_iret C Rr d_Cls_push_28 rfl (by decide) (by decide) ⟨_, rfl, mkP.same hC (by unfold sPush; rw [if_pos (Or.inr (by rw [vT_N ha31]; omega))]; rfl)⟩
  · refine g_callV (ci := kCls) C d_Cls_push_2 cw_Cls_87 sl_Cls_isOpen (c_Cls_isOpen X.1 w x S ed ts O (v) hC) rfl hC.1 (As := [.int (v)]) rfl rfl rfl (Nat.le_of_ble_eq_true rfl) ⟨rfl, rfl, by decide, by decide⟩ ⟨by decide, by decide⟩ (kI (fun r w2 h2 => ?_))
    rw [h2.1, h2.2, if_neg hv]
    refine g_if_eq C 27 d_Cls_push_5 (by decide) (by first | exact nI_toInt (by omega) | rfl) (fun b5 => ?_) (fun b5 => ?_)
    · refine g_iconst (v := nI 0) C d_Cls_push_27 rfl ?_
      exact g_iret C Rr d_Cls_push_28 rfl (by decide) (by decide) ⟨_, rfl, mkP.same hC (by unfold sPush; rw [if_pos (Or.inl hv)]; rfl)⟩
    · exfalso; omega
