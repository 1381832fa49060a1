/-! THE CLASS: concat, slice, insertAt. -/
set_option maxRecDepth 100000 in
set_option maxHeartbeats 4000000 in
theorem c_Cls_concat (N : gN) (w : gW) (x : Nat) (S : St) (ed : Nat) (ts : List Nat) (O : Nat → Int32) (v u : Int32) (hC : ClsV w x S ed ts O) : CtN N y_Cls_concat b_Cls_concat 4 (some FieldType.int) (rmm 8 190 17 663) [.ref x, .int v, .int u] w (pI (fun r w' => mkP w x (sCat S v u) r w')) 17 663 := by
  refine ct_intro N [some (.ref x), some (.int v), some (.int u), none] (by decide) rfl (Nat.le_of_ble_eq_true rfl) (by simp [Value.category]) ?_
  intro X hX C Rr
  obtain ⟨c0, cA, cO, ⟨⟨rs1, h1, cs1⟩, ⟨rs2, h2, cs2⟩, ⟨rs3, h3, cs3⟩⟩, ⟨cl, ck⟩, cT, ⟨cf, cf0⟩, cg, cm, ⟨cd, cz, ce, cx⟩⟩ := id hC
  have ck40 := ck.2.1
  refine g_aldn C d_Cls_concat_0 rfl ?_
  refine g_ldn C d_Cls_concat_1 rfl ?_
  by_cases hu : frz S u
  · refine g_callV (ci := kCls) C d_Cls_concat_2 cw_Cls_60 sl_Cls_isFrozen (c_Cls_isFrozen X.1 w x S ed ts O (u) hC) rfl hC.1 (As := [.int (u)]) rfl rfl rfl (Nat.le_of_ble_eq_true rfl) ⟨rfl, rfl, by decide, by decide⟩ ⟨by decide, by decide⟩ (kI (fun r w2 h2 => ?_))
    rw [h2.1, h2.2, if_pos hu]
    refine g_if_ne C 10 d_Cls_concat_5 (by decide) (by first | exact nI_toInt (by omega) | rfl) (fun b5 => ?_) (fun b5 => ?_)
    · obtain ⟨c, hc, rfl⟩ := vOk_ex hu.1
      have hc31 : c < 2 ^ 31 := by omega
      have hU := cT c hc
      have wfU := hC.wf hc
      have ul := wfU.1
      have gc := cg c hc
      refine g_aldn C d_Cls_concat_10 rfl ?_
      refine g_ldn C d_Cls_concat_11 rfl ?_
      refine g_aldn C d_Cls_concat_12 rfl ?_
      refine g_get C d_Cls_concat_13 fl_Cls_12 hC.1 (by rfl) ?_
      refine g_ldn C d_Cls_concat_16 rfl ?_
      refine q_get C d_Cls_concat_17 d_Cls_concat_20 hC (by omega) rfl (Nat.le_of_ble_eq_true rfl) (by decide) (by decide) (by decide) (by decide) ?_
      refine q_len C d_Cls_concat_23 (by assumption) rfl (Nat.le_of_ble_eq_true rfl) (by decide) (by decide) (by decide) (by decide) ?_
      refine g_callV (ci := kCls) C d_Cls_concat_26 cw_Cls_37 sl_Cls_refusalToGrow (c_Cls_refusalToGrow X.1 w x S ed ts O v ((S_ S c).1.1.length) (by omega) hC) rfl hC.1 (As := [.int (v), .int (nI ((S_ S c).1.1.length))]) rfl rfl rfl (Nat.le_of_ble_eq_true rfl) ⟨rfl, rfl, by decide, by decide⟩ ⟨by decide, by decide⟩ (kI (fun r w2 h2 => ?_))
      rcases rfs_cases S (v) ((S_ S c).1.1.length) with ⟨hv, e⟩ | ⟨hv, h40, e⟩ | ⟨hv, h40, h80, e⟩ | ⟨hv, h40, h80, e⟩
      · rw [h2.1, h2.2, e]
        refine g_stn C [_, _, _, _] d_Cls_concat_29 (Nat.le_of_ble_eq_true rfl) rfl ?_
        refine g_ldn C d_Cls_concat_30 rfl ?_
        refine g_if_eq C 36 d_Cls_concat_31 (by decide) (show (-1 : Int32).toInt = -1 by decide) (fun b31 => ?_) (fun b31 => ?_)
        · exfalso; omega
        · refine g_ldn C d_Cls_concat_34 rfl ?_
          exact g_iret C Rr d_Cls_concat_35 rfl (by decide) (by decide) ⟨_, rfl, mkP.same hC (by unfold sCat; rw [if_pos (fun z => hv z.1)])⟩
      · rw [h2.1, h2.2, e]
        refine g_stn C [_, _, _, _] d_Cls_concat_29 (Nat.le_of_ble_eq_true rfl) rfl ?_
        refine g_ldn C d_Cls_concat_30 rfl ?_
        refine g_if_eq C 36 d_Cls_concat_31 (by decide) (show (-2 : Int32).toInt = -2 by decide) (fun b31 => ?_) (fun b31 => ?_)
        · exfalso; omega
        · refine g_ldn C d_Cls_concat_34 rfl ?_
          exact g_iret C Rr d_Cls_concat_35 rfl (by decide) (by decide) ⟨_, rfl, mkP.same hC (by unfold sCat; rw [if_neg (fun z => z ⟨hv, hu⟩), if_pos h40])⟩
      · rw [h2.1, h2.2, e]
        refine g_stn C [_, _, _, _] d_Cls_concat_29 (Nat.le_of_ble_eq_true rfl) rfl ?_
        refine g_ldn C d_Cls_concat_30 rfl ?_
        refine g_if_eq C 36 d_Cls_concat_31 (by decide) (show (-3 : Int32).toInt = -3 by decide) (fun b31 => ?_) (fun b31 => ?_)
        · exfalso; omega
        · refine g_ldn C d_Cls_concat_34 rfl ?_
          exact g_iret C Rr d_Cls_concat_35 rfl (by decide) (by decide) ⟨_, rfl, mkP.same hC (by unfold sCat; rw [if_neg (fun z => z ⟨hv, hu⟩), if_neg h40, vT_N hc31, if_pos h80])⟩
      · rw [h2.1, h2.2, e]
        refine g_stn C [_, _, _, _] d_Cls_concat_29 (Nat.le_of_ble_eq_true rfl) rfl ?_
        refine g_ldn C d_Cls_concat_30 rfl ?_
        refine g_if_eq C 36 d_Cls_concat_31 (by decide) (by first | exact nI_toInt (by omega) | rfl) (fun b31 => ?_) (fun b31 => ?_)
        · obtain ⟨a, ha, rfl⟩ := vOk_ex hv.1
          have ha31 : a < 2 ^ 31 := by omega
          have hT := cT a ha
          have hwf := hC.wf ha
          have hl := hwf.1
          have hh := hwf.2.1
          have ga := cg a ha
          rw [vT_N ha31] at h80
          refine g_aldn C d_Cls_concat_36 rfl ?_
          refine g_get C d_Cls_concat_37 fl_Cls_34 hC.1 (by rfl) ?_
          refine g_aldn C d_Cls_concat_40 rfl ?_
          refine g_get C d_Cls_concat_41 fl_Cls_12 hC.1 (by rfl) ?_
          refine g_ldn C d_Cls_concat_44 rfl ?_
          refine q_get C d_Cls_concat_45 d_Cls_concat_48 hC (by omega) rfl (Nat.le_of_ble_eq_true rfl) (by decide) (by decide) (by decide) (by decide) ?_
          refine g_aldn C d_Cls_concat_51 rfl ?_
          refine g_get C d_Cls_concat_52 fl_Cls_12 hC.1 (by rfl) ?_
          refine g_ldn C d_Cls_concat_55 rfl ?_
          refine q_get C d_Cls_concat_56 d_Cls_concat_59 hC (by omega) rfl (Nat.le_of_ble_eq_true rfl) (by decide) (by decide) (by decide) (by decide) ?_
          refine g_callV (ci := kTree) C d_Cls_concat_62 cw_Cls_79 sl_Tree_join (c_Tree_join X.1 w (x + 52) (gd 0 ts a) (gd 0 ts c) _ _ (S_ S a).1 (S_ S c).1 (by omega) (by omega) (by omega) (wf_up hwf (by omega)) (wf_up wfU (by omega)) cs3 hT hU) rfl cs3.1 (As := [.ref (gd 0 ts a), .ref (gd 0 ts c)]) rfl rfl rfl (Nat.le_of_ble_eq_true rfl) ⟨rfl, rfl, by decide, by decide⟩ ⟨by decide, by decide⟩ (kV (fun w3 h3 => ?_))
          have hC3 := hC.scr (by omega) h3.1 h3.2
          refine g_aldn C d_Cls_concat_65 rfl ?_
          refine g_callV (ci := kCls) C d_Cls_concat_66 cw_Cls_53 sl_Cls_keepResult (c_Cls_keepResult X.1 w3 x S ed ts O (joinT (S_ S a).1 (S_ S c).1) (wf_up (joinT_wf hwf wfU (by omega)) (by omega)) (by omega) hC3 h3.2) rfl hC3.1 (As := []) rfl rfl rfl (Nat.le_of_ble_eq_true rfl) ⟨rfl, rfl, by decide, by decide⟩ ⟨by decide, by decide⟩ (kI (fun r w9 h9 => ?_))
          exact g_iret C Rr d_Cls_concat_69 rfl (by decide) (by decide) ⟨_, rfl, mkP.of (by unfold sCat; rw [if_neg (fun z => z ⟨hv, hu⟩), if_neg h40, vT_N hc31, vT_N ha31, if_neg h80]) (Fr.rf.sm h3.1 (by omega)) h9⟩
        · exfalso; omega
    · exfalso; omega
  · refine g_callV (ci := kCls) C d_Cls_concat_2 cw_Cls_60 sl_Cls_isFrozen (c_Cls_isFrozen X.1 w x S ed ts O (u) hC) rfl hC.1 (As := [.int (u)]) rfl rfl rfl (Nat.le_of_ble_eq_true rfl) ⟨rfl, rfl, by decide, by decide⟩ ⟨by decide, by decide⟩ (kI (fun r w2 h2 => ?_))
    rw [h2.1, h2.2, if_neg hu]
    refine g_if_ne C 10 d_Cls_concat_5 (by decide) (by first | exact nI_toInt (by omega) | rfl) (fun b5 => ?_) (fun b5 => ?_)
    · exfalso; omega
    · refine g_iconst (v := -1) C d_Cls_concat_8 rfl ?_
      exact g_iret C Rr d_Cls_concat_9 rfl (by decide) (by decide) ⟨_, rfl, mkP.same hC (by unfold sCat; rw [if_pos (fun z => hu z.2)])⟩
set_option maxRecDepth 100000 in
set_option maxHeartbeats 4000000 in
theorem c_Cls_slice (N : gN) (w : gW) (x : Nat) (S : St) (ed : Nat) (ts : List Nat) (O : Nat → Int32) (v f t : Int32) (hC : ClsV w x S ed ts O) : CtN N y_Cls_slice b_Cls_slice 4 (some FieldType.int) (rmm 8 190 17 663) [.ref x, .int v, .int f, .int t] w (pI (fun r w' => mkP w x (sSli S v f t) r w')) 17 663 := by
  refine ct_intro N [some (.ref x), some (.int v), some (.int f), some (.int t)] (by decide) rfl (Nat.le_of_ble_eq_true rfl) (by simp [Value.category]) ?_
  intro X hX C Rr
  obtain ⟨c0, cA, cO, ⟨⟨rs1, h1, cs1⟩, ⟨rs2, h2, cs2⟩, ⟨rs3, h3, cs3⟩⟩, ⟨cl, ck⟩, cT, ⟨cf, cf0⟩, cg, cm, ⟨cd, cz, ce, cx⟩⟩ := id hC
  have ck40 := ck.2.1
  refine g_aldn C d_Cls_slice_0 rfl ?_
  refine g_ldn C d_Cls_slice_1 rfl ?_
  by_cases hv : frz S v
  · refine g_callV (ci := kCls) C d_Cls_slice_2 cw_Cls_60 sl_Cls_isFrozen (c_Cls_isFrozen X.1 w x S ed ts O (v) hC) rfl hC.1 (As := [.int (v)]) rfl rfl rfl (Nat.le_of_ble_eq_true rfl) ⟨rfl, rfl, by decide, by decide⟩ ⟨by decide, by decide⟩ (kI (fun r w2 h2 => ?_))
    rw [h2.1, h2.2, if_pos hv]
    refine g_if_eq C 35 d_Cls_slice_5 (by decide) (by first | exact nI_toInt (by omega) | rfl) (fun b5 => ?_) (fun b5 => ?_)
    · exfalso; omega
    · obtain ⟨a, ha, rfl⟩ := vOk_ex hv.1
      have ha31 : a < 2 ^ 31 := by omega
      have hT := cT a ha
      have hwf := hC.wf ha
      have hl := hwf.1
      have hh := hwf.2.1
      have ga := cg a ha
      refine g_ldn C d_Cls_slice_8 rfl ?_
      refine g_if_lt C 35 d_Cls_slice_9 (by decide) rfl (fun b9 => ?_) (fun b9 => ?_)
      · refine g_iconst (v := -1) C d_Cls_slice_35 rfl ?_
        exact g_iret C Rr d_Cls_slice_36 rfl (by decide) (by decide) ⟨_, rfl, mkP.same hC (by unfold sSli; rw [if_pos (fun z => by have := z.2.1; omega)])⟩
      · refine g_ldn C d_Cls_slice_12 rfl ?_
        refine g_ldn C d_Cls_slice_13 rfl ?_
        refine g_icmp_gt C 35 d_Cls_slice_14 (by decide) rfl rfl (fun b14 => ?_) (fun b14 => ?_)
        · refine g_iconst (v := -1) C d_Cls_slice_35 rfl ?_
          exact g_iret C Rr d_Cls_slice_36 rfl (by decide) (by decide) ⟨_, rfl, mkP.same hC (by unfold sSli; rw [if_pos (fun z => by have := z.2.2.1; omega)])⟩
        · refine g_ldn C d_Cls_slice_17 rfl ?_
          refine g_aldn C d_Cls_slice_18 rfl ?_
          refine g_get C d_Cls_slice_19 fl_Cls_12 hC.1 (by rfl) ?_
          refine g_ldn C d_Cls_slice_22 rfl ?_
          refine q_get C d_Cls_slice_23 d_Cls_slice_26 hC (by omega) rfl (Nat.le_of_ble_eq_true rfl) (by decide) (by decide) (by decide) (by decide) ?_
          refine q_len C d_Cls_slice_29 (by assumption) rfl (Nat.le_of_ble_eq_true rfl) (by decide) (by decide) (by decide) (by decide) ?_
          refine g_icmp_le C 37 d_Cls_slice_32 (by decide) rfl (by first | exact nI_toInt (by omega) | rfl) (fun b32 => ?_) (fun b32 => ?_)
          · have hz : ¬ ¬ (frz S (nI a) ∧ 0 ≤ f.toInt ∧ f.toInt ≤ t.toInt ∧ t.toInt ≤ (vT S (nI a)).1.length) := fun z => z ⟨hv, by omega, by omega, by rw [vT_N ha31]; omega⟩
            refine g_aldn C d_Cls_slice_37 rfl ?_
            by_cases h40 : 40 ≤ S.length
            · refine g_callV (ci := kCls) C d_Cls_slice_38 cw_Cls_68 sl_Cls_isFull (c_Cls_isFull X.1 w x S ed ts O  hC) rfl hC.1 (As := []) rfl rfl rfl (Nat.le_of_ble_eq_true rfl) ⟨rfl, rfl, by decide, by decide⟩ ⟨by decide, by decide⟩ (kI (fun r w2 h2 => ?_))
              rw [h2.1, h2.2, if_pos h40]
              refine g_if_eq C 47 d_Cls_slice_41 (by decide) (by first | exact nI_toInt (by omega) | rfl) (fun b41 => ?_) (fun b41 => ?_)
              · exfalso; omega
              · refine g_bipush (v := (-2)) C d_Cls_slice_44 (by decide) ?_
                exact g_iret C Rr d_Cls_slice_46 rfl (by decide) (by decide) ⟨_, rfl, mkP.same hC (by unfold sSli; rw [if_neg hz, if_pos h40])⟩
            · refine g_callV (ci := kCls) C d_Cls_slice_38 cw_Cls_68 sl_Cls_isFull (c_Cls_isFull X.1 w x S ed ts O  hC) rfl hC.1 (As := []) rfl rfl rfl (Nat.le_of_ble_eq_true rfl) ⟨rfl, rfl, by decide, by decide⟩ ⟨by decide, by decide⟩ (kI (fun r w2 h2 => ?_))
              rw [h2.1, h2.2, if_neg h40]
              refine g_if_eq C 47 d_Cls_slice_41 (by decide) (by first | exact nI_toInt (by omega) | rfl) (fun b41 => ?_) (fun b41 => ?_)
              · rcases i32_sgn f with hf | ⟨b, hb, rfl⟩
                · exfalso; omega
                rcases i32_sgn t with ht | ⟨c, hc, rfl⟩
                · exfalso; omega
                have tb := nI_toInt hb
                have tc := nI_toInt hc
                refine g_aldn C d_Cls_slice_47 rfl ?_
                refine g_get C d_Cls_slice_48 fl_Cls_34 hC.1 (by rfl) ?_
                refine g_aldn C d_Cls_slice_51 rfl ?_
                refine g_get C d_Cls_slice_52 fl_Cls_12 hC.1 (by rfl) ?_
                refine g_ldn C d_Cls_slice_55 rfl ?_
                refine q_get C d_Cls_slice_56 d_Cls_slice_59 hC (by omega) rfl (Nat.le_of_ble_eq_true rfl) (by decide) (by decide) (by decide) (by decide) ?_
                refine g_ldn C d_Cls_slice_62 rfl ?_
                refine g_ldn C d_Cls_slice_63 rfl ?_
                refine g_callV (ci := kTree) C d_Cls_slice_64 cw_Cls_83 sl_Tree_cut (c_Tree_cut X.1 w (x + 52) (gd 0 ts a) _ _ (S_ S a).1 (b) (c) (by omega) (by omega) (by omega) hwf cs3 hT) rfl cs3.1 (As := [.ref (gd 0 ts a), .int (nI (b)), .int (nI (c))]) rfl rfl rfl (Nat.le_of_ble_eq_true rfl) ⟨rfl, rfl, by decide, by decide⟩ ⟨by decide, by decide⟩ (kV (fun w3 h3 => ?_))
                have hC3 := hC.scr (by omega) h3.1 h3.2
                refine g_aldn C d_Cls_slice_67 rfl ?_
                refine g_callV (ci := kCls) C d_Cls_slice_68 cw_Cls_53 sl_Cls_keepResult (c_Cls_keepResult X.1 w3 x S ed ts O (cutT (S_ S a).1 b c) (wf_up (cutT_wf hwf (by omega) (by omega)) (by omega)) (by omega) hC3 h3.2) rfl hC3.1 (As := []) rfl rfl rfl (Nat.le_of_ble_eq_true rfl) ⟨rfl, rfl, by decide, by decide⟩ ⟨by decide, by decide⟩ (kI (fun r w9 h9 => ?_))
                exact g_iret C Rr d_Cls_slice_71 rfl (by decide) (by decide) ⟨_, rfl, mkP.of (by unfold sSli; rw [if_neg hz, if_neg h40, vT_N ha31, nI_tn hb, nI_tn hc]) (Fr.rf.sm h3.1 (by omega)) h9⟩
              · exfalso; omega
          · refine g_iconst (v := -1) C d_Cls_slice_35 rfl ?_
            exact g_iret C Rr d_Cls_slice_36 rfl (by decide) (by decide) ⟨_, rfl, mkP.same hC (by unfold sSli; rw [if_pos (fun z => by have := z.2.2.2; rw [vT_N ha31] at this; omega)])⟩
  · refine g_callV (ci := kCls) C d_Cls_slice_2 cw_Cls_60 sl_Cls_isFrozen (c_Cls_isFrozen X.1 w x S ed ts O (v) hC) rfl hC.1 (As := [.int (v)]) rfl rfl rfl (Nat.le_of_ble_eq_true rfl) ⟨rfl, rfl, by decide, by decide⟩ ⟨by decide, by decide⟩ (kI (fun r w2 h2 => ?_))
    rw [h2.1, h2.2, if_neg hv]
    refine g_if_eq C 35 d_Cls_slice_5 (by decide) (by first | exact nI_toInt (by omega) | rfl) (fun b5 => ?_) (fun b5 => ?_)
    · refine g_iconst (v := -1) C d_Cls_slice_35 rfl ?_
      exact g_iret C Rr d_Cls_slice_36 rfl (by decide) (by decide) ⟨_, rfl, mkP.same hC (by unfold sSli; rw [if_pos (fun z => hv z.1)])⟩
    · exfalso; omega
set_option maxRecDepth 100000 in
set_option maxHeartbeats 4000000 in
theorem c_Cls_insertAt (N : gN) (w : gW) (x : Nat) (S : St) (ed : Nat) (ts : List Nat) (O : Nat → Int32) (v i y : Int32) (hC : ClsV w x S ed ts O) : CtN N y_Cls_insertAt b_Cls_insertAt 6 (some FieldType.int) (rmm 8 190 17 663) [.ref x, .int v, .int i, .int y] w (pI (fun r w' => mkP w x (sIns S v i y) r w')) 17 663 := by
  refine ct_intro N [some (.ref x), some (.int v), some (.int i), some (.int y), none, none] (by decide) rfl (Nat.le_of_ble_eq_true rfl) (by simp [Value.category]) ?_
  intro X hX C Rr
  obtain ⟨c0, cA, cO, ⟨⟨rs1, h1, cs1⟩, ⟨rs2, h2, cs2⟩, ⟨rs3, h3, cs3⟩⟩, ⟨cl, ck⟩, cT, ⟨cf, cf0⟩, cg, cm, ⟨cd, cz, ce, cx⟩⟩ := id hC
  have ck40 := ck.2.1
  refine g_aldn C d_Cls_insertAt_0 rfl ?_
  refine g_ldn C d_Cls_insertAt_1 rfl ?_
  by_cases hv0 : frz S v
  · refine g_callV (ci := kCls) C d_Cls_insertAt_2 cw_Cls_60 sl_Cls_isFrozen (c_Cls_isFrozen X.1 w x S ed ts O (v) hC) rfl hC.1 (As := [.int (v)]) rfl rfl rfl (Nat.le_of_ble_eq_true rfl) ⟨rfl, rfl, by decide, by decide⟩ ⟨by decide, by decide⟩ (kI (fun r w2 h2 => ?_))
    rw [h2.1, h2.2, if_pos hv0]
    refine g_if_eq C 30 d_Cls_insertAt_5 (by decide) (by first | exact nI_toInt (by omega) | rfl) (fun b5 => ?_) (fun b5 => ?_)
    · exfalso; omega
    · obtain ⟨a, ha, rfl⟩ := vOk_ex hv0.1
      have ha31 : a < 2 ^ 31 := by omega
      have hT := cT a ha
      have hwf := hC.wf ha
      have hl := hwf.1
      have hh := hwf.2.1
      have ga := cg a ha
      refine g_ldn C d_Cls_insertAt_8 rfl ?_
      refine g_if_lt C 30 d_Cls_insertAt_9 (by decide) rfl (fun b9 => ?_) (fun b9 => ?_)
      · refine g_iconst (v := -1) C d_Cls_insertAt_30 rfl ?_
        exact g_iret C Rr d_Cls_insertAt_31 rfl (by decide) (by decide) ⟨_, rfl, mkP.same hC (by unfold sIns; rw [if_pos (fun z => by have := z.2.1; omega)])⟩
      · refine g_ldn C d_Cls_insertAt_12 rfl ?_
        refine g_aldn C d_Cls_insertAt_13 rfl ?_
        refine g_get C d_Cls_insertAt_14 fl_Cls_12 hC.1 (by rfl) ?_
        refine g_ldn C d_Cls_insertAt_17 rfl ?_
        refine q_get C d_Cls_insertAt_18 d_Cls_insertAt_21 hC (by omega) rfl (Nat.le_of_ble_eq_true rfl) (by decide) (by decide) (by decide) (by decide) ?_
        refine q_len C d_Cls_insertAt_24 (by assumption) rfl (Nat.le_of_ble_eq_true rfl) (by decide) (by decide) (by decide) (by decide) ?_
        refine g_icmp_le C 32 d_Cls_insertAt_27 (by decide) rfl (by first | exact nI_toInt (by omega) | rfl) (fun b27 => ?_) (fun b27 => ?_)
        · have hz : ¬ ¬ (frz S (nI a) ∧ 0 ≤ i.toInt ∧ i.toInt ≤ (vT S (nI a)).1.length) := fun z => z ⟨hv0, by omega, by rw [vT_N ha31]; omega⟩
          refine g_aldn C d_Cls_insertAt_32 rfl ?_
          refine g_ldn C d_Cls_insertAt_33 rfl ?_
          refine g_iconst (v := nI 1) C d_Cls_insertAt_34 rfl ?_
          refine g_callV (ci := kCls) C d_Cls_insertAt_35 cw_Cls_37 sl_Cls_refusalToGrow (c_Cls_refusalToGrow X.1 w x S ed ts O (nI a) (1) (by omega) hC) rfl hC.1 (As := [.int ((nI a)), .int (nI (1))]) rfl rfl rfl (Nat.le_of_ble_eq_true rfl) ⟨rfl, rfl, by decide, by decide⟩ ⟨by decide, by decide⟩ (kI (fun r w2 h2 => ?_))
          rcases rfs_cases S ((nI a)) (1) with ⟨hv, e⟩ | ⟨hv, h40, e⟩ | ⟨hv, h40, h80, e⟩ | ⟨hv, h40, h80, e⟩
          · rw [h2.1, h2.2, e]
            refine g_st C [_, _, _, _, _, _] d_Cls_insertAt_38 (Nat.le_of_ble_eq_true rfl) rfl ?_
            refine g_ld C d_Cls_insertAt_40 rfl ?_
            refine g_if_eq C 48 d_Cls_insertAt_42 (by decide) (show (-1 : Int32).toInt = -1 by decide) (fun b42 => ?_) (fun b42 => ?_)
            · exfalso; omega
            · refine g_ld C d_Cls_insertAt_45 rfl ?_
              exact g_iret C Rr d_Cls_insertAt_47 rfl (by decide) (by decide) ⟨_, rfl, mkP.same hC (by exact absurd hv0 hv)⟩
          · rw [h2.1, h2.2, e]
            refine g_st C [_, _, _, _, _, _] d_Cls_insertAt_38 (Nat.le_of_ble_eq_true rfl) rfl ?_
            refine g_ld C d_Cls_insertAt_40 rfl ?_
            refine g_if_eq C 48 d_Cls_insertAt_42 (by decide) (show (-2 : Int32).toInt = -2 by decide) (fun b42 => ?_) (fun b42 => ?_)
            · exfalso; omega
            · refine g_ld C d_Cls_insertAt_45 rfl ?_
              exact g_iret C Rr d_Cls_insertAt_47 rfl (by decide) (by decide) ⟨_, rfl, mkP.same hC (by unfold sIns; rw [if_neg hz, if_pos h40])⟩
          · rw [h2.1, h2.2, e]
            refine g_st C [_, _, _, _, _, _] d_Cls_insertAt_38 (Nat.le_of_ble_eq_true rfl) rfl ?_
            refine g_ld C d_Cls_insertAt_40 rfl ?_
            refine g_if_eq C 48 d_Cls_insertAt_42 (by decide) (show (-3 : Int32).toInt = -3 by decide) (fun b42 => ?_) (fun b42 => ?_)
            · exfalso; omega
            · refine g_ld C d_Cls_insertAt_45 rfl ?_
              exact g_iret C Rr d_Cls_insertAt_47 rfl (by decide) (by decide) ⟨_, rfl, mkP.same hC (by unfold sIns; rw [if_neg hz, if_neg h40, if_pos h80])⟩
          · rw [h2.1, h2.2, e]
            refine g_st C [_, _, _, _, _, _] d_Cls_insertAt_38 (Nat.le_of_ble_eq_true rfl) rfl ?_
            refine g_ld C d_Cls_insertAt_40 rfl ?_
            refine g_if_eq C 48 d_Cls_insertAt_42 (by decide) (by first | exact nI_toInt (by omega) | rfl) (fun b42 => ?_) (fun b42 => ?_)
            · rw [vT_N ha31] at h80
              rcases i32_sgn i with hf | ⟨c, hc, rfl⟩
              · exfalso; omega
              have tc := nI_toInt hc
              refine g_aldn C d_Cls_insertAt_48 rfl ?_
              refine g_get C d_Cls_insertAt_49 fl_Cls_12 hC.1 (by rfl) ?_
              refine g_ldn C d_Cls_insertAt_52 rfl ?_
              refine q_get C d_Cls_insertAt_53 d_Cls_insertAt_56 hC (by omega) rfl (Nat.le_of_ble_eq_true rfl) (by decide) (by decide) (by decide) (by decide) ?_
              refine g_ast C [_, _, _, _, _, _] d_Cls_insertAt_59 (Nat.le_of_ble_eq_true rfl) rfl ?_
              refine g_aldn C d_Cls_insertAt_61 rfl ?_
              refine g_get C d_Cls_insertAt_62 fl_Cls_27 hC.1 (by rfl) ?_
              refine g_ald C d_Cls_insertAt_65 rfl ?_
              refine g_iconst (v := nI 0) C d_Cls_insertAt_67 rfl ?_
              refine g_ldn C d_Cls_insertAt_68 rfl ?_
              refine g_callV (ci := kTree) C d_Cls_insertAt_69 cw_Cls_83 sl_Tree_cut (c_Tree_cut X.1 w (x + 20) (gd 0 ts a) _ _ (S_ S a).1 (0) (c) (by omega) (by omega) (by omega) hwf cs1 hT) rfl cs1.1 (As := [.ref (gd 0 ts a), .int (nI (0)), .int (nI (c))]) rfl rfl rfl (Nat.le_of_ble_eq_true rfl) ⟨rfl, rfl, by decide, by decide⟩ ⟨by decide, by decide⟩ (kV (fun w3 h3 => ?_))
              have hC3 := hC.scr (by omega) h3.1 h3.2
              have hT3 := hT.sm h3.1 (by omega)
              have cs23 := cs2.sm h3.1 (by omega)
              have cs33 := cs3.sm h3.1 (by omega)
              have wP : wfT 4 (cutT (S_ S a).1 0 c) := cutT_wf hwf (by omega) (by omega)
              have wQ : wfT 4 (cutT (S_ S a).1 c (S_ S a).1.1.length) := cutT_wf hwf (by omega) (by omega)
              have lP : (cutT (S_ S a).1 0 c).1.length = c := by unfold cutT; simp; omega
              have lQ : (cutT (S_ S a).1 c (S_ S a).1.1.length).1.length = (S_ S a).1.1.length - c := by unfold cutT; simp
              refine g_aldn C d_Cls_insertAt_72 rfl ?_
              refine g_get C d_Cls_insertAt_73 fl_Cls_27 hC3.1 (by rfl) ?_
              refine g_ldn C d_Cls_insertAt_76 rfl ?_
              refine g_callV (ci := kTree) C d_Cls_insertAt_77 cw_Cls_49 sl_Tree_addLast (c_Tree_addLast X.1 w3 (x + 20) (cutT (S_ S a).1 0 c) y (wf_up wP (by omega)) (by omega) h3.2) rfl h3.2.1 (As := [.int y]) rfl rfl rfl (Nat.le_of_ble_eq_true rfl) ⟨rfl, rfl, by decide, by decide⟩ ⟨by decide, by decide⟩ (kV (fun w4 h4 => ?_))
              have hC4 := hC3.scr (by omega) h4.1 h4.2
              have hT4 := hT3.sm h4.1 (by omega)
              have cs24 := cs23.sm h4.1 (by omega)
              have cs34 := cs33.sm h4.1 (by omega)
              have wPP : wfT 5 (addEnd (cutT (S_ S a).1 0 c) y) := addEnd_wf wP (by omega) y
              have lPP : (addEnd (cutT (S_ S a).1 0 c) y).1.length = c + 1 := by unfold addEnd; simp [lP]
              refine g_aldn C d_Cls_insertAt_80 rfl ?_
              refine g_get C d_Cls_insertAt_81 fl_Cls_31 hC4.1 (by rfl) ?_
              refine g_ald C d_Cls_insertAt_84 rfl ?_
              refine g_ldn C d_Cls_insertAt_86 rfl ?_
              refine g_ald C d_Cls_insertAt_87 rfl ?_
              refine q_len C d_Cls_insertAt_89 (by assumption) rfl (Nat.le_of_ble_eq_true rfl) (by decide) (by decide) (by decide) (by decide) ?_
              refine g_callV (ci := kTree) C d_Cls_insertAt_92 cw_Cls_83 sl_Tree_cut (c_Tree_cut X.1 w4 (x + 36) (gd 0 ts a) _ _ (S_ S a).1 (c) ((S_ S a).1.1.length) (by omega) (by omega) (by omega) hwf cs24 hT4) rfl cs24.1 (As := [.ref (gd 0 ts a), .int (nI (c)), .int (nI ((S_ S a).1.1.length))]) rfl rfl rfl (Nat.le_of_ble_eq_true rfl) ⟨rfl, rfl, by decide, by decide⟩ ⟨by decide, by decide⟩ (kV (fun w5 h5 => ?_))
              have hC5 := hC4.scr (by omega) h5.1 h5.2
              have cs35 := cs34.sm h5.1 (by omega)
              have cL5 := h4.2.sm h5.1 (by omega)
              refine g_aldn C d_Cls_insertAt_95 rfl ?_
              refine g_get C d_Cls_insertAt_96 fl_Cls_34 hC5.1 (by rfl) ?_
              refine g_aldn C d_Cls_insertAt_99 rfl ?_
              refine g_get C d_Cls_insertAt_100 fl_Cls_27 hC5.1 (by rfl) ?_
              refine g_aldn C d_Cls_insertAt_103 rfl ?_
              refine g_get C d_Cls_insertAt_104 fl_Cls_31 hC5.1 (by rfl) ?_
              refine g_callV (ci := kTree) C d_Cls_insertAt_107 cw_Cls_79 sl_Tree_join (c_Tree_join X.1 w5 (x + 52) (x + 20) (x + 36) _ _ (addEnd (cutT (S_ S a).1 0 c) y) (cutT (S_ S a).1 c (S_ S a).1.1.length) (by omega) (by omega) (by omega) wPP (wf_up wQ (by omega)) cs35 cL5 h5.2) rfl cs35.1 (As := [.ref (x + 20), .ref (x + 36)]) rfl rfl rfl (Nat.le_of_ble_eq_true rfl) ⟨rfl, rfl, by decide, by decide⟩ ⟨by decide, by decide⟩ (kV (fun w6 h6 => ?_))
              have hC6 := hC5.scr (by omega) h6.1 h6.2
              refine g_aldn C d_Cls_insertAt_110 rfl ?_
              refine g_callV (ci := kCls) C d_Cls_insertAt_111 cw_Cls_53 sl_Cls_keepResult (c_Cls_keepResult X.1 w6 x S ed ts O (joinT (addEnd (cutT (S_ S a).1 0 c) y) (cutT (S_ S a).1 c (S_ S a).1.1.length)) (joinT_wf wPP (wf_up wQ (by omega)) (by omega)) (by omega) hC6 h6.2) rfl hC6.1 (As := []) rfl rfl rfl (Nat.le_of_ble_eq_true rfl) ⟨rfl, rfl, by decide, by decide⟩ ⟨by decide, by decide⟩ (kI (fun r w9 h9 => ?_))
              exact g_iret C Rr d_Cls_insertAt_114 rfl (by decide) (by decide) ⟨_, rfl, mkP.of (by unfold sIns; rw [if_neg hz, if_neg h40, vT_N ha31, if_neg h80, nI_tn hc]) ((((Fr.rf.sm h3.1 (by omega)).sm h4.1 (by omega)).sm h5.1 (by omega)).sm h6.1 (by omega)) h9⟩
            · exfalso; omega
        · refine g_iconst (v := -1) C d_Cls_insertAt_30 rfl ?_
          exact g_iret C Rr d_Cls_insertAt_31 rfl (by decide) (by decide) ⟨_, rfl, mkP.same hC (by unfold sIns; rw [if_pos (fun z => by have := z.2.2; rw [vT_N ha31] at this; omega)])⟩
  · refine g_callV (ci := kCls) C d_Cls_insertAt_2 cw_Cls_60 sl_Cls_isFrozen (c_Cls_isFrozen X.1 w x S ed ts O (v) hC) rfl hC.1 (As := [.int (v)]) rfl rfl rfl (Nat.le_of_ble_eq_true rfl) ⟨rfl, rfl, by decide, by decide⟩ ⟨by decide, by decide⟩ (kI (fun r w2 h2 => ?_))
    rw [h2.1, h2.2, if_neg hv0]
    refine g_if_eq C 30 d_Cls_insertAt_5 (by decide) (by first | exact nI_toInt (by omega) | rfl) (fun b5 => ?_) (fun b5 => ?_)
    · refine g_iconst (v := -1) C d_Cls_insertAt_30 rfl ?_
      exact g_iret C Rr d_Cls_insertAt_31 rfl (by decide) (by decide) ⟨_, rfl, mkP.same hC (by unfold sIns; rw [if_pos (fun z => hv0 z.1)])⟩
    · exfalso; omega
