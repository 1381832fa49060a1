/-! THE REFERENCE: its public calls that make or change a version. -/
theorem mkM.same {w0 w : gW} {m : Nat} {R : RA} {S : St} {q : Int32 × St} {r : Int32} (hR : RefW w0 w m R S.length) (hS : RefS R S) (hq : q = (r, S)) : mkM w0 m q r w := by
  subst hq
  exact ⟨rfl, R, hR, hS⟩
theorem RefS.set {R R' : RA} {S : St} {a : Nat} {T : Tr} {b : Bool} (h : RefS R S) (ha : a < S.length) (hw : wfT 4 T) (hV : VerR R' a T) (h5 : R' 5 a = if b = true then nI 1 else nI 0) (ho : ∀ i, i < S.length → i ≠ a → VerR R' i (S_ S i).1 ∧ R' 5 i = R 5 i) : RefS R' (S.set a (T, b)) := by
  refine ⟨okS_set h.1 hw, fun i hi => ?_⟩
  rw [List.length_set] at hi
  rw [gd_setS ha]
  by_cases e : i = a
  · subst e; rw [if_pos rfl]; exact ⟨hV, h5⟩
  · rw [if_neg e]; exact ⟨(ho i hi e).1, (ho i hi e).2.trans (h.2 i hi).2⟩
set_option maxRecDepth 100000 in
set_option maxHeartbeats 4000000 in
theorem c_Mod_grownE (N : gN) (w0 w : gW) (m : Nat) (R : RA) (S : St) (v y : Int32) (hS : RefS R S) (hR : RefW w0 w m R S.length) : CtN N y_Mod_grown b_Mod_grown 4 (some FieldType.int) (rmm 3 76 0 0) [.ref m, .int v, .int y, .int (nI 1)] w (pI (fun r w' => mkM w0 m (sGrow S v (addEnd (vT S v) y)) r w')) 0 0 := by
  refine ct_intro N [some (.ref m), some (.int v), some (.int y), some (.int (nI 1))] (by decide) rfl (Nat.le_of_ble_eq_true rfl) (by simp [Value.category]) ?_
  intro X hX C Rr
  have hk := hS.1.2.1
  refine g_aldn C d_Mod_grown_0 rfl ?_
  refine g_ldn C d_Mod_grown_1 rfl ?_
  by_cases hv : frz S v
  · refine g_callV (ci := kMod) C d_Mod_grown_2 cw_Mod_86 sl_Mod_frozen (c_Mod_frozen X.1 w0 w m R S v hS hR) rfl hR.2.1 (As := [.int (v)]) rfl rfl rfl (Nat.le_of_ble_eq_true rfl) ⟨rfl, rfl, by decide, by decide⟩ ⟨by decide, by decide⟩ (kI (fun r w2 h2 => ?_))
    rw [h2.1, h2.2, if_pos hv]
    refine g_if_ne C 10 d_Mod_grown_5 (by decide) (by first | exact nI_toInt (by omega) | rfl) (fun b5 => ?_) (fun b5 => ?_)
    · obtain ⟨a, ha, rfl⟩ := vOk_ex hv.1
      have ha31 : a < 2 ^ 31 := by omega
      have hV := (hS.2 a ha).1
      have hwf := hS.wf ha
      have hl := hwf.1
      have hh := hwf.2.1
      refine g_aldn C d_Mod_grown_10 rfl ?_
      refine r_f6 C d_Mod_grown_11 hR ?_
      refine g_bipush (v := nI 40) C d_Mod_grown_14 (by decide) ?_
      refine g_icmp_ne C 22 d_Mod_grown_16 (by decide) (by first | exact nI_toInt (by omega) | rfl) (by first | exact nI_toInt (by omega) | rfl) (fun b16 => ?_) (fun b16 => ?_)
      · refine g_aldn C d_Mod_grown_22 rfl ?_
        refine r_f2 C d_Mod_grown_23 hR ?_
        refine g_ldn C d_Mod_grown_26 rfl ?_
        refine r_ld2 C d_Mod_grown_27 hR (by omega) hV.1 ?_
        refine g_bipush (v := nI 80) C d_Mod_grown_28 (by decide) ?_
        refine g_icmp_ne C 36 d_Mod_grown_30 (by decide) (by first | exact nI_toInt (by omega) | rfl) (by first | exact nI_toInt (by omega) | rfl) (fun b30 => ?_) (fun b30 => ?_)
        · refine g_aldn C d_Mod_grown_36 rfl ?_
          refine g_iconst (v := nI 0) C d_Mod_grown_37 rfl ?_
          refine g_ldn C d_Mod_grown_38 rfl ?_
          refine g_callV (ci := kMod) C d_Mod_grown_39 cw_Mod_89 sl_Mod_load (c_Mod_load X.1 w0 w m R S.length 0 a (S_ S a).1 (by omega) (by omega) hwf hR hV) rfl hR.2.1 (As := [.int (nI 0), .int (nI a)]) rfl rfl rfl (Nat.le_of_ble_eq_true rfl) ⟨rfl, rfl, by decide, by decide⟩ ⟨by decide, by decide⟩ (kV (fun w2 h2 => ?_))
          obtain ⟨R2, hR2, hW2, hF2⟩ := h2
          have hS2 := hS.fr hF2.ver
          refine g_aldn C d_Mod_grown_42 rfl ?_
          refine g_iconst (v := nI 0) C d_Mod_grown_43 rfl ?_
          refine g_ldn C d_Mod_grown_44 rfl ?_
          refine g_ldn C d_Mod_grown_45 rfl ?_
          refine g_callV (ci := kMod) C d_Mod_grown_46 cw_Mod_92 sl_Mod_add (c_Mod_addEnd X.1 w0 w2 m R2 S.length 0 y (S_ S a).1 (by omega) (wf_up hwf (by omega)) (by omega) hR2 hW2) rfl hR2.2.1 (As := [.int (nI 0), .int y, .int (nI 1)]) rfl rfl rfl (Nat.le_of_ble_eq_true rfl) ⟨rfl, rfl, by decide, by decide⟩ ⟨by decide, by decide⟩ (kV (fun w3 h3 => ?_))
          obtain ⟨R3, hR3, hW3, hF3⟩ := h3
          have hS3 := hS2.fr hF3.ver
          refine g_aldn C d_Mod_grown_49 rfl ?_
          refine g_iconst (v := nI 0) C d_Mod_grown_50 rfl ?_
          refine g_callV (ci := kMod) C d_Mod_grown_51 cw_Mod_96 sl_Mod_newVersion (c_Mod_newVersion X.1 w0 w3 m R3 S 0 (addEnd (S_ S a).1 y) (by omega) (by omega) (wf_up (addEnd_wf hwf (by omega) y) (by omega)) hR3 hS3 hW3) rfl hR3.2.1 (As := [.int (nI 0)]) rfl rfl rfl (Nat.le_of_ble_eq_true rfl) ⟨rfl, rfl, by decide, by decide⟩ ⟨by decide, by decide⟩ (kI (fun r w99 h99 => ?_))
          exact g_iret C Rr d_Mod_grown_54 rfl (by decide) (by decide) ⟨_, rfl, by unfold sGrow; rw [if_neg (fun z => z hv), if_neg (by omega), vT_N ha31, if_neg (by omega)]; exact h99⟩
        · refine g_bipush (v := (-3)) C d_Mod_grown_33 (by decide) ?_
          exact g_iret C Rr d_Mod_grown_35 rfl (by decide) (by decide) ⟨_, rfl, mkM.same hR hS (by unfold sGrow; rw [if_neg (fun z => z hv), if_neg (by omega), vT_N ha31, if_pos (by omega)])⟩
      · refine g_bipush (v := (-2)) C d_Mod_grown_19 (by decide) ?_
        exact g_iret C Rr d_Mod_grown_21 rfl (by decide) (by decide) ⟨_, rfl, mkM.same hR hS (by unfold sGrow; rw [if_neg (fun z => z hv), if_pos (by omega)])⟩
    · exfalso; omega
  · refine g_callV (ci := kMod) C d_Mod_grown_2 cw_Mod_86 sl_Mod_frozen (c_Mod_frozen X.1 w0 w m R S v hS hR) rfl hR.2.1 (As := [.int (v)]) rfl rfl rfl (Nat.le_of_ble_eq_true rfl) ⟨rfl, rfl, by decide, by decide⟩ ⟨by decide, by decide⟩ (kI (fun r w2 h2 => ?_))
    rw [h2.1, h2.2, if_neg hv]
    refine g_if_ne C 10 d_Mod_grown_5 (by decide) (by first | exact nI_toInt (by omega) | rfl) (fun b5 => ?_) (fun b5 => ?_)
    · exfalso; omega
    · refine g_iconst (v := -1) C d_Mod_grown_8 rfl ?_
      exact g_iret C Rr d_Mod_grown_9 rfl (by decide) (by decide) ⟨_, rfl, mkM.same hR hS (by unfold sGrow; rw [if_pos hv])⟩
set_option maxRecDepth 100000 in
set_option maxHeartbeats 4000000 in
theorem c_Mod_grownB (N : gN) (w0 w : gW) (m : Nat) (R : RA) (S : St) (v y : Int32) (hS : RefS R S) (hR : RefW w0 w m R S.length) : CtN N y_Mod_grown b_Mod_grown 4 (some FieldType.int) (rmm 3 76 0 0) [.ref m, .int v, .int y, .int (nI 0)] w (pI (fun r w' => mkM w0 m (sGrow S v (addBeg (vT S v) y)) r w')) 0 0 := by
  refine ct_intro N [some (.ref m), some (.int v), some (.int y), some (.int (nI 0))] (by decide) rfl (Nat.le_of_ble_eq_true rfl) (by simp [Value.category]) ?_
  intro X hX C Rr
  have hk := hS.1.2.1
  refine g_aldn C d_Mod_grown_0 rfl ?_
  refine g_ldn C d_Mod_grown_1 rfl ?_
  by_cases hv : frz S v
  · refine g_callV (ci := kMod) C d_Mod_grown_2 cw_Mod_86 sl_Mod_frozen (c_Mod_frozen X.1 w0 w m R S v hS hR) rfl hR.2.1 (As := [.int (v)]) rfl rfl rfl (Nat.le_of_ble_eq_true rfl) ⟨rfl, rfl, by decide, by decide⟩ ⟨by decide, by decide⟩ (kI (fun r w2 h2 => ?_))
    rw [h2.1, h2.2, if_pos hv]
    refine g_if_ne C 10 d_Mod_grown_5 (by decide) (by first | exact nI_toInt (by omega) | rfl) (fun b5 => ?_) (fun b5 => ?_)
    · obtain ⟨a, ha, rfl⟩ := vOk_ex hv.1
      have ha31 : a < 2 ^ 31 := by omega
      have hV := (hS.2 a ha).1
      have hwf := hS.wf ha
      have hl := hwf.1
      have hh := hwf.2.1
      refine g_aldn C d_Mod_grown_10 rfl ?_
      refine r_f6 C d_Mod_grown_11 hR ?_
      refine g_bipush (v := nI 40) C d_Mod_grown_14 (by decide) ?_
      refine g_icmp_ne C 22 d_Mod_grown_16 (by decide) (by first | exact nI_toInt (by omega) | rfl) (by first | exact nI_toInt (by omega) | rfl) (fun b16 => ?_) (fun b16 => ?_)
      · refine g_aldn C d_Mod_grown_22 rfl ?_
        refine r_f2 C d_Mod_grown_23 hR ?_
        refine g_ldn C d_Mod_grown_26 rfl ?_
        refine r_ld2 C d_Mod_grown_27 hR (by omega) hV.1 ?_
        refine g_bipush (v := nI 80) C d_Mod_grown_28 (by decide) ?_
        refine g_icmp_ne C 36 d_Mod_grown_30 (by decide) (by first | exact nI_toInt (by omega) | rfl) (by first | exact nI_toInt (by omega) | rfl) (fun b30 => ?_) (fun b30 => ?_)
        · refine g_aldn C d_Mod_grown_36 rfl ?_
          refine g_iconst (v := nI 0) C d_Mod_grown_37 rfl ?_
          refine g_ldn C d_Mod_grown_38 rfl ?_
          refine g_callV (ci := kMod) C d_Mod_grown_39 cw_Mod_89 sl_Mod_load (c_Mod_load X.1 w0 w m R S.length 0 a (S_ S a).1 (by omega) (by omega) hwf hR hV) rfl hR.2.1 (As := [.int (nI 0), .int (nI a)]) rfl rfl rfl (Nat.le_of_ble_eq_true rfl) ⟨rfl, rfl, by decide, by decide⟩ ⟨by decide, by decide⟩ (kV (fun w2 h2 => ?_))
          obtain ⟨R2, hR2, hW2, hF2⟩ := h2
          have hS2 := hS.fr hF2.ver
          refine g_aldn C d_Mod_grown_42 rfl ?_
          refine g_iconst (v := nI 0) C d_Mod_grown_43 rfl ?_
          refine g_ldn C d_Mod_grown_44 rfl ?_
          refine g_ldn C d_Mod_grown_45 rfl ?_
          refine g_callV (ci := kMod) C d_Mod_grown_46 cw_Mod_92 sl_Mod_add (c_Mod_addBeg X.1 w0 w2 m R2 S.length 0 y (S_ S a).1 (by omega) (wf_up hwf (by omega)) (by omega) hR2 hW2) rfl hR2.2.1 (As := [.int (nI 0), .int y, .int (nI 0)]) rfl rfl rfl (Nat.le_of_ble_eq_true rfl) ⟨rfl, rfl, by decide, by decide⟩ ⟨by decide, by decide⟩ (kV (fun w3 h3 => ?_))
          obtain ⟨R3, hR3, hW3, hF3⟩ := h3
          have hS3 := hS2.fr hF3.ver
          refine g_aldn C d_Mod_grown_49 rfl ?_
          refine g_iconst (v := nI 0) C d_Mod_grown_50 rfl ?_
          refine g_callV (ci := kMod) C d_Mod_grown_51 cw_Mod_96 sl_Mod_newVersion (c_Mod_newVersion X.1 w0 w3 m R3 S 0 (addBeg (S_ S a).1 y) (by omega) (by omega) (wf_up (addBeg_wf hwf (by omega) y) (by omega)) hR3 hS3 hW3) rfl hR3.2.1 (As := [.int (nI 0)]) rfl rfl rfl (Nat.le_of_ble_eq_true rfl) ⟨rfl, rfl, by decide, by decide⟩ ⟨by decide, by decide⟩ (kI (fun r w99 h99 => ?_))
          exact g_iret C Rr d_Mod_grown_54 rfl (by decide) (by decide) ⟨_, rfl, by unfold sGrow; rw [if_neg (fun z => z hv), if_neg (by omega), vT_N ha31, if_neg (by omega)]; exact h99⟩
        · refine g_bipush (v := (-3)) C d_Mod_grown_33 (by decide) ?_
          exact g_iret C Rr d_Mod_grown_35 rfl (by decide) (by decide) ⟨_, rfl, mkM.same hR hS (by unfold sGrow; rw [if_neg (fun z => z hv), if_neg (by omega), vT_N ha31, if_pos (by omega)])⟩
      · refine g_bipush (v := (-2)) C d_Mod_grown_19 (by decide) ?_
        exact g_iret C Rr d_Mod_grown_21 rfl (by decide) (by decide) ⟨_, rfl, mkM.same hR hS (by unfold sGrow; rw [if_neg (fun z => z hv), if_pos (by omega)])⟩
    · exfalso; omega
  · refine g_callV (ci := kMod) C d_Mod_grown_2 cw_Mod_86 sl_Mod_frozen (c_Mod_frozen X.1 w0 w m R S v hS hR) rfl hR.2.1 (As := [.int (v)]) rfl rfl rfl (Nat.le_of_ble_eq_true rfl) ⟨rfl, rfl, by decide, by decide⟩ ⟨by decide, by decide⟩ (kI (fun r w2 h2 => ?_))
    rw [h2.1, h2.2, if_neg hv]
    refine g_if_ne C 10 d_Mod_grown_5 (by decide) (by first | exact nI_toInt (by omega) | rfl) (fun b5 => ?_) (fun b5 => ?_)
    · exfalso; omega
    · refine g_iconst (v := -1) C d_Mod_grown_8 rfl ?_
      exact g_iret C Rr d_Mod_grown_9 rfl (by decide) (by decide) ⟨_, rfl, mkM.same hR hS (by unfold sGrow; rw [if_pos hv])⟩
set_option maxRecDepth 100000 in
set_option maxHeartbeats 4000000 in
theorem c_Mod_append (N : gN) (w0 w : gW) (m : Nat) (R : RA) (S : St) (v y : Int32) (hS : RefS R S) (hR : RefW w0 w m R S.length) : CtN N y_Mod_append b_Mod_append 3 (some FieldType.int) (rmm 4 99 0 0) [.ref m, .int v, .int y] w (pI (fun r w' => mkM w0 m (sApp S v y) r w')) 0 0 := by
  refine ct_intro N [some (.ref m), some (.int v), some (.int y)] (by decide) rfl (Nat.le_of_ble_eq_true rfl) (by simp [Value.category]) ?_
  intro X hX C Rr
  refine g_aldn C d_Mod_append_0 rfl ?_
  refine g_ldn C d_Mod_append_1 rfl ?_
  refine g_ldn C d_Mod_append_2 rfl ?_
  refine g_iconst (v := nI 1) C d_Mod_append_3 rfl ?_
  refine g_callV (ci := kMod) C d_Mod_append_4 cw_Mod_100 sl_Mod_grown (c_Mod_grownE X.1 w0 w m R S v y hS hR) rfl hR.2.1 (As := [.int v, .int y, .int (nI 1)]) rfl rfl rfl (Nat.le_of_ble_eq_true rfl) ⟨rfl, rfl, by decide, by decide⟩ ⟨by decide, by decide⟩ (kI (fun r w2 h2 => ?_))
  exact g_iret C Rr d_Mod_append_7 rfl (by decide) (by decide) ⟨_, rfl, h2⟩
set_option maxRecDepth 100000 in
set_option maxHeartbeats 4000000 in
theorem c_Mod_prepend (N : gN) (w0 w : gW) (m : Nat) (R : RA) (S : St) (v y : Int32) (hS : RefS R S) (hR : RefW w0 w m R S.length) : CtN N y_Mod_prepend b_Mod_prepend 3 (some FieldType.int) (rmm 4 99 0 0) [.ref m, .int v, .int y] w (pI (fun r w' => mkM w0 m (sPre S v y) r w')) 0 0 := by
  refine ct_intro N [some (.ref m), some (.int v), some (.int y)] (by decide) rfl (Nat.le_of_ble_eq_true rfl) (by simp [Value.category]) ?_
  intro X hX C Rr
  refine g_aldn C d_Mod_prepend_0 rfl ?_
  refine g_ldn C d_Mod_prepend_1 rfl ?_
  refine g_ldn C d_Mod_prepend_2 rfl ?_
  refine g_iconst (v := nI 0) C d_Mod_prepend_3 rfl ?_
  refine g_callV (ci := kMod) C d_Mod_prepend_4 cw_Mod_100 sl_Mod_grown (c_Mod_grownB X.1 w0 w m R S v y hS hR) rfl hR.2.1 (As := [.int v, .int y, .int (nI 0)]) rfl rfl rfl (Nat.le_of_ble_eq_true rfl) ⟨rfl, rfl, by decide, by decide⟩ ⟨by decide, by decide⟩ (kI (fun r w2 h2 => ?_))
  exact g_iret C Rr d_Mod_prepend_7 rfl (by decide) (by decide) ⟨_, rfl, h2⟩
theorem WkR.put {R : RA} {T : Tr} {c : Nat} {y : Int32} (h : WkR R 0 T) (hc : c < T.1.length) : WkR (rup R 6 c y) 0 (setT T (nI c) y) := by
  obtain ⟨⟨h1, h2, h3⟩, h4, h5⟩ := h
  have e : setT T (nI c) y = (T.1.set c y, T.2) := by unfold setT; rw [nI_tn (by omega)]
  rw [e]
  refine ⟨⟨?_, by show (T.1.set c y).length ≤ 80; rw [List.length_set]; exact h2, fun i hi => ?_⟩, (rupn (by omega)).trans h4, fun l l1 l6 => (h5 l l1 l6).fr (rupn (by omega)) (fun b hb => rupn (by omega))⟩
  · show _ = nI (T.1.set c y).length
    rw [List.length_set]; exact (rupn (by omega)).trans h1
  · have hi : i < (T.1.set c y).length := hi
    rw [List.length_set] at hi
    show _ = gd 0 (T.1.set c y) i
    rw [gd_set hc]
    by_cases e : i = c
    · subst e; rw [if_pos rfl, show 80 * 0 + i = i by omega]; exact rups
    · rw [if_neg e, rupn (by omega)]; exact h3 i hi
set_option maxRecDepth 100000 in
set_option maxHeartbeats 4000000 in
theorem c_Mod_set (N : gN) (w0 w : gW) (m : Nat) (R : RA) (S : St) (v i y : Int32) (hS : RefS R S) (hR : RefW w0 w m R S.length) : CtN N y_Mod_set b_Mod_set 4 (some FieldType.int) (rmm 3 68 0 0) [.ref m, .int v, .int i, .int y] w (pI (fun r w' => mkM w0 m (sSet S v i y) r w')) 0 0 := by
  refine ct_intro N [some (.ref m), some (.int v), some (.int i), some (.int y)] (by decide) rfl (Nat.le_of_ble_eq_true rfl) (by simp [Value.category]) ?_
  intro X hX C Rr
  have hk := hS.1.2.1
  refine g_aldn C d_Mod_set_0 rfl ?_
  refine g_ldn C d_Mod_set_1 rfl ?_
  by_cases hv : frz S v
  · refine g_callV (ci := kMod) C d_Mod_set_2 cw_Mod_86 sl_Mod_frozen (c_Mod_frozen X.1 w0 w m R S v hS hR) rfl hR.2.1 (As := [.int (v)]) rfl rfl rfl (Nat.le_of_ble_eq_true rfl) ⟨rfl, rfl, by decide, by decide⟩ ⟨by decide, by decide⟩ (kI (fun r w2 h2 => ?_))
    rw [h2.1, h2.2, if_pos hv]
    refine g_if_eq C 22 d_Mod_set_5 (by decide) (by first | exact nI_toInt (by omega) | rfl) (fun b5 => ?_) (fun b5 => ?_)
    · exfalso; omega
    · obtain ⟨a, ha, rfl⟩ := vOk_ex hv.1
      have ha31 : a < 2 ^ 31 := by omega
      have hV := (hS.2 a ha).1
      have hwf := hS.wf ha
      have hl := hwf.1
      have hh := hwf.2.1
      refine g_ldn C d_Mod_set_8 rfl ?_
      refine g_if_lt C 22 d_Mod_set_9 (by decide) rfl (fun b9 => ?_) (fun b9 => ?_)
      · refine g_iconst (v := -1) C d_Mod_set_22 rfl ?_
        exact g_iret C Rr d_Mod_set_23 rfl (by decide) (by decide) ⟨_, rfl, mkM.same hR hS (by unfold sSet; rw [if_pos (fun z => by have := z.2.1; omega)])⟩
      · refine g_ldn C d_Mod_set_12 rfl ?_
        refine g_aldn C d_Mod_set_13 rfl ?_
        refine r_f2 C d_Mod_set_14 hR ?_
        refine g_ldn C d_Mod_set_17 rfl ?_
        refine r_ld2 C d_Mod_set_18 hR (by omega) hV.1 ?_
        refine g_icmp_lt C 24 d_Mod_set_19 (by decide) rfl (by first | exact nI_toInt (by omega) | rfl) (fun b19 => ?_) (fun b19 => ?_)
        · have hz : ¬ ¬ (frz S (nI a) ∧ plc S (nI a) i) := fun z => z ⟨hv, by omega, by rw [vT_N ha31]; omega⟩
          rcases i32_sgn i with hi | ⟨c, hc, rfl⟩
          · exfalso; omega
          have tc := nI_toInt hc
          refine g_aldn C d_Mod_set_24 rfl ?_
          refine r_f6 C d_Mod_set_25 hR ?_
          refine g_bipush (v := nI 40) C d_Mod_set_28 (by decide) ?_
          refine g_icmp_ne C 36 d_Mod_set_30 (by decide) (by first | exact nI_toInt (by omega) | rfl) (by first | exact nI_toInt (by omega) | rfl) (fun b30 => ?_) (fun b30 => ?_)
          · refine g_aldn C d_Mod_set_36 rfl ?_
            refine g_iconst (v := nI 0) C d_Mod_set_37 rfl ?_
            refine g_ldn C d_Mod_set_38 rfl ?_
            refine g_callV (ci := kMod) C d_Mod_set_39 cw_Mod_89 sl_Mod_load (c_Mod_load X.1 w0 w m R S.length 0 a (S_ S a).1 (by omega) (by omega) hwf hR hV) rfl hR.2.1 (As := [.int (nI 0), .int (nI a)]) rfl rfl rfl (Nat.le_of_ble_eq_true rfl) ⟨rfl, rfl, by decide, by decide⟩ ⟨by decide, by decide⟩ (kV (fun w2 h2 => ?_))
            obtain ⟨R2, hR2, hW2, hF2⟩ := h2
            have hS2 := hS.fr hF2.ver
            refine g_aldn C d_Mod_set_42 rfl ?_
            refine r_f7 C d_Mod_set_43 hR2 ?_
            refine g_ldn C d_Mod_set_46 rfl ?_
            refine g_ldn C d_Mod_set_47 rfl ?_
            refine r_st6 C d_Mod_set_48 hR2 (by omega) (fun w3 hR3 => ?_)
            have hW3 := hW2.put (c := c) (y := y) (by omega)
            have hS3 : RefS (rup R2 6 c y) S := hS2.fr (fun k j hk => rupn (by omega))
            refine g_aldn C d_Mod_set_49 rfl ?_
            refine g_iconst (v := nI 0) C d_Mod_set_50 rfl ?_
            refine g_callV (ci := kMod) C d_Mod_set_51 cw_Mod_96 sl_Mod_newVersion (c_Mod_newVersion X.1 w0 w3 m (rup R2 6 c y) S 0 (setT (S_ S a).1 (nI c) y) (by omega) (by omega) (setT_wf (wf_up hwf (by omega)) _ _) hR3 hS3 hW3) rfl hR3.2.1 (As := [.int (nI 0)]) rfl rfl rfl (Nat.le_of_ble_eq_true rfl) ⟨rfl, rfl, by decide, by decide⟩ ⟨by decide, by decide⟩ (kI (fun r w99 h99 => ?_))
            exact g_iret C Rr d_Mod_set_54 rfl (by decide) (by decide) ⟨_, rfl, by unfold sSet; rw [if_neg hz, if_neg (by omega), vT_N ha31]; exact h99⟩
          · refine g_bipush (v := (-2)) C d_Mod_set_33 (by decide) ?_
            exact g_iret C Rr d_Mod_set_35 rfl (by decide) (by decide) ⟨_, rfl, mkM.same hR hS (by unfold sSet; rw [if_neg hz, if_pos (by omega)])⟩
        · refine g_iconst (v := -1) C d_Mod_set_22 rfl ?_
          exact g_iret C Rr d_Mod_set_23 rfl (by decide) (by decide) ⟨_, rfl, mkM.same hR hS (by unfold sSet; rw [if_pos (fun z => by have := z.2.2; rw [vT_N ha31] at this; omega)])⟩
  · refine g_callV (ci := kMod) C d_Mod_set_2 cw_Mod_86 sl_Mod_frozen (c_Mod_frozen X.1 w0 w m R S v hS hR) rfl hR.2.1 (As := [.int (v)]) rfl rfl rfl (Nat.le_of_ble_eq_true rfl) ⟨rfl, rfl, by decide, by decide⟩ ⟨by decide, by decide⟩ (kI (fun r w2 h2 => ?_))
    rw [h2.1, h2.2, if_neg hv]
    refine g_if_eq C 22 d_Mod_set_5 (by decide) (by first | exact nI_toInt (by omega) | rfl) (fun b5 => ?_) (fun b5 => ?_)
    · refine g_iconst (v := -1) C d_Mod_set_22 rfl ?_
      exact g_iret C Rr d_Mod_set_23 rfl (by decide) (by decide) ⟨_, rfl, mkM.same hR hS (by unfold sSet; rw [if_pos (fun z => hv z.1)])⟩
    · exfalso; omega
set_option maxRecDepth 100000 in
set_option maxHeartbeats 4000000 in
theorem c_Mod_removeAt (N : gN) (w0 w : gW) (m : Nat) (R : RA) (S : St) (v i : Int32) (hS : RefS R S) (hR : RefW w0 w m R S.length) : CtN N y_Mod_removeAt b_Mod_removeAt 3 (some FieldType.int) (rmm 5 133 0 0) [.ref m, .int v, .int i] w (pI (fun r w' => mkM w0 m (sRem S v i) r w')) 0 0 := by
  refine ct_intro N [some (.ref m), some (.int v), some (.int i)] (by decide) rfl (Nat.le_of_ble_eq_true rfl) (by simp [Value.category]) ?_
  intro X hX C Rr
  have hk := hS.1.2.1
  refine g_aldn C d_Mod_removeAt_0 rfl ?_
  refine g_ldn C d_Mod_removeAt_1 rfl ?_
  by_cases hv : frz S v
  · refine g_callV (ci := kMod) C d_Mod_removeAt_2 cw_Mod_86 sl_Mod_frozen (c_Mod_frozen X.1 w0 w m R S v hS hR) rfl hR.2.1 (As := [.int (v)]) rfl rfl rfl (Nat.le_of_ble_eq_true rfl) ⟨rfl, rfl, by decide, by decide⟩ ⟨by decide, by decide⟩ (kI (fun r w2 h2 => ?_))
    rw [h2.1, h2.2, if_pos hv]
    refine g_if_eq C 22 d_Mod_removeAt_5 (by decide) (by first | exact nI_toInt (by omega) | rfl) (fun b5 => ?_) (fun b5 => ?_)
    · exfalso; omega
    · obtain ⟨a, ha, rfl⟩ := vOk_ex hv.1
      have ha31 : a < 2 ^ 31 := by omega
      have hV := (hS.2 a ha).1
      have hwf := hS.wf ha
      have hl := hwf.1
      have hh := hwf.2.1
      refine g_ldn C d_Mod_removeAt_8 rfl ?_
      refine g_if_lt C 22 d_Mod_removeAt_9 (by decide) rfl (fun b9 => ?_) (fun b9 => ?_)
      · refine g_iconst (v := -1) C d_Mod_removeAt_22 rfl ?_
        exact g_iret C Rr d_Mod_removeAt_23 rfl (by decide) (by decide) ⟨_, rfl, mkM.same hR hS (by unfold sRem; rw [if_pos (fun z => by have := z.2.1; omega)])⟩
      · refine g_ldn C d_Mod_removeAt_12 rfl ?_
        refine g_aldn C d_Mod_removeAt_13 rfl ?_
        refine r_f2 C d_Mod_removeAt_14 hR ?_
        refine g_ldn C d_Mod_removeAt_17 rfl ?_
        refine r_ld2 C d_Mod_removeAt_18 hR (by omega) hV.1 ?_
        refine g_icmp_lt C 24 d_Mod_removeAt_19 (by decide) rfl (by first | exact nI_toInt (by omega) | rfl) (fun b19 => ?_) (fun b19 => ?_)
        · have hz : ¬ ¬ (frz S (nI a) ∧ plc S (nI a) i) := fun z => z ⟨hv, by omega, by rw [vT_N ha31]; omega⟩
          rcases i32_sgn i with hi | ⟨c, hc, rfl⟩
          · exfalso; omega
          have tc := nI_toInt hc
          refine g_aldn C d_Mod_removeAt_24 rfl ?_
          refine r_f6 C d_Mod_removeAt_25 hR ?_
          refine g_bipush (v := nI 40) C d_Mod_removeAt_28 (by decide) ?_
          refine g_icmp_ne C 36 d_Mod_removeAt_30 (by decide) (by first | exact nI_toInt (by omega) | rfl) (by first | exact nI_toInt (by omega) | rfl) (fun b30 => ?_) (fun b30 => ?_)
          · refine g_aldn C d_Mod_removeAt_36 rfl ?_
            refine g_iconst (v := nI 0) C d_Mod_removeAt_37 rfl ?_
            refine g_ldn C d_Mod_removeAt_38 rfl ?_
            refine g_callV (ci := kMod) C d_Mod_removeAt_39 cw_Mod_89 sl_Mod_load (c_Mod_load X.1 w0 w m R S.length 0 a (S_ S a).1 (by omega) (by omega) hwf hR hV) rfl hR.2.1 (As := [.int (nI 0), .int (nI a)]) rfl rfl rfl (Nat.le_of_ble_eq_true rfl) ⟨rfl, rfl, by decide, by decide⟩ ⟨by decide, by decide⟩ (kV (fun w2 h2 => ?_))
            obtain ⟨R2, hR2, hW2, hF2⟩ := h2
            have hS2 := hS.fr hF2.ver
            have hV2 := (hS2.2 a ha).1
            refine g_aldn C d_Mod_removeAt_42 rfl ?_
            refine g_iconst (v := nI 1) C d_Mod_removeAt_43 rfl ?_
            refine g_ldn C d_Mod_removeAt_44 rfl ?_
            refine g_callV (ci := kMod) C d_Mod_removeAt_45 cw_Mod_89 sl_Mod_load (c_Mod_load X.1 w0 w2 m R2 S.length 1 a (S_ S a).1 (by omega) (by omega) hwf hR2 hV2) rfl hR2.2.1 (As := [.int (nI 1), .int (nI a)]) rfl rfl rfl (Nat.le_of_ble_eq_true rfl) ⟨rfl, rfl, by decide, by decide⟩ ⟨by decide, by decide⟩ (kV (fun w3 h3 => ?_))
            obtain ⟨R3, hR3, hW3, hF3⟩ := h3
            have hS3 := hS2.fr hF3.ver
            have hX3_0 := hW2.frW hF3 (by omega)
            refine g_aldn C d_Mod_removeAt_48 rfl ?_
            refine g_iconst (v := nI 0) C d_Mod_removeAt_49 rfl ?_
            refine g_iconst (v := nI 0) C d_Mod_removeAt_50 rfl ?_
            refine g_ldn C d_Mod_removeAt_51 rfl ?_
            refine g_callV (ci := kMod) C d_Mod_removeAt_52 cw_Mod_107 sl_Mod_cut (c_Mod_cut X.1 w0 w3 m R3 S.length 0 (0) (c) (S_ S a).1 (by omega) (by omega) (by omega) hwf hR3 hX3_0) rfl hR3.2.1 (As := [.int (nI 0), .int (nI (0)), .int (nI (c))]) rfl rfl rfl (Nat.le_of_ble_eq_true rfl) ⟨rfl, rfl, by decide, by decide⟩ ⟨by decide, by decide⟩ (kV (fun w4 h4 => ?_))
            obtain ⟨R4, hR4, hW4, hF4⟩ := h4
            have hS4 := hS3.fr hF4.ver
            have hX4_1 := hW3.frW hF4 (by omega)
            have hV4 := (hS4.2 a ha).1
            refine g_aldn C d_Mod_removeAt_55 rfl ?_
            refine g_iconst (v := nI 1) C d_Mod_removeAt_56 rfl ?_
            refine g_ldn C d_Mod_removeAt_57 rfl ?_
            refine g_iconst (v := nI 1) C d_Mod_removeAt_58 rfl ?_
            first | refine g_addN C d_Mod_removeAt_59 ?_ | refine g_add C d_Mod_removeAt_59 ?_
            refine g_aldn C d_Mod_removeAt_60 rfl ?_
            refine r_f2 C d_Mod_removeAt_61 hR4 ?_
            refine g_ldn C d_Mod_removeAt_64 rfl ?_
            refine r_ld2 C d_Mod_removeAt_65 hR4 (by omega) hV4.1 ?_
            refine g_callV (ci := kMod) C d_Mod_removeAt_66 cw_Mod_107 sl_Mod_cut (c_Mod_cut X.1 w0 w4 m R4 S.length 1 (c + 1) ((S_ S a).1.1.length) (S_ S a).1 (by omega) (by omega) (by omega) hwf hR4 hX4_1) rfl hR4.2.1 (As := [.int (nI 1), .int (nI (c + 1)), .int (nI ((S_ S a).1.1.length))]) rfl rfl rfl (Nat.le_of_ble_eq_true rfl) ⟨rfl, rfl, by decide, by decide⟩ ⟨by decide, by decide⟩ (kV (fun w5 h5 => ?_))
            obtain ⟨R5, hR5, hW5, hF5⟩ := h5
            have hS5 := hS4.fr hF5.ver
            have hX5_0 := hW4.frW hF5 (by omega)
            have hll : (cutT (S_ S a).1 0 c).1.length + (cutT (S_ S a).1 (c + 1) (S_ S a).1.1.length).1.length ≤ 80 := by unfold cutT; simp; omega
            have wP : wfT 4 (cutT (S_ S a).1 0 c) := cutT_wf hwf (by omega) (by omega)
            have wQ : wfT 4 (cutT (S_ S a).1 (c + 1) (S_ S a).1.1.length) := cutT_wf hwf (by omega) (by omega)
            refine g_aldn C d_Mod_removeAt_69 rfl ?_
            refine g_callV (ci := kMod) C d_Mod_removeAt_70 cw_Mod_104 sl_Mod_join (c_Mod_join X.1 w0 w5 m R5 S.length (cutT (S_ S a).1 0 c) (cutT (S_ S a).1 (c + 1) (S_ S a).1.1.length) (wf_up wP (by omega)) (wf_up wQ (by omega)) hll hR5 hX5_0 hW5) rfl hR5.2.1 (As := []) rfl rfl rfl (Nat.le_of_ble_eq_true rfl) ⟨rfl, rfl, by decide, by decide⟩ ⟨by decide, by decide⟩ (kV (fun w6 h6 => ?_))
            obtain ⟨R6, hR6, hW6, hF6⟩ := h6
            have hS6 := hS5.fr hF6.ver
            have hX6_0 := hX5_0.frW hF6 (by omega)
            have hX6_1 := hW5.frW hF6 (by omega)
            refine g_aldn C d_Mod_removeAt_73 rfl ?_
            refine g_iconst (v := nI 2) C d_Mod_removeAt_74 rfl ?_
            refine g_callV (ci := kMod) C d_Mod_removeAt_75 cw_Mod_96 sl_Mod_newVersion (c_Mod_newVersion X.1 w0 w6 m R6 S 2 (joinT (cutT (S_ S a).1 0 c) (cutT (S_ S a).1 (c + 1) (S_ S a).1.1.length)) (by omega) (by omega) (wf_up (joinT_wf wP wQ hll) (by omega)) hR6 hS6 hW6) rfl hR6.2.1 (As := [.int (nI 2)]) rfl rfl rfl (Nat.le_of_ble_eq_true rfl) ⟨rfl, rfl, by decide, by decide⟩ ⟨by decide, by decide⟩ (kI (fun r w99 h99 => ?_))
            exact g_iret C Rr d_Mod_removeAt_78 rfl (by decide) (by decide) ⟨_, rfl, by unfold sRem; rw [if_neg hz, if_neg (by omega), vT_N ha31, nI_tn hc]; exact h99⟩
          · refine g_bipush (v := (-2)) C d_Mod_removeAt_33 (by decide) ?_
            exact g_iret C Rr d_Mod_removeAt_35 rfl (by decide) (by decide) ⟨_, rfl, mkM.same hR hS (by unfold sRem; rw [if_neg hz, if_pos (by omega)])⟩
        · refine g_iconst (v := -1) C d_Mod_removeAt_22 rfl ?_
          exact g_iret C Rr d_Mod_removeAt_23 rfl (by decide) (by decide) ⟨_, rfl, mkM.same hR hS (by unfold sRem; rw [if_pos (fun z => by have := z.2.2; rw [vT_N ha31] at this; omega)])⟩
  · refine g_callV (ci := kMod) C d_Mod_removeAt_2 cw_Mod_86 sl_Mod_frozen (c_Mod_frozen X.1 w0 w m R S v hS hR) rfl hR.2.1 (As := [.int (v)]) rfl rfl rfl (Nat.le_of_ble_eq_true rfl) ⟨rfl, rfl, by decide, by decide⟩ ⟨by decide, by decide⟩ (kI (fun r w2 h2 => ?_))
    rw [h2.1, h2.2, if_neg hv]
    refine g_if_eq C 22 d_Mod_removeAt_5 (by decide) (by first | exact nI_toInt (by omega) | rfl) (fun b5 => ?_) (fun b5 => ?_)
    · refine g_iconst (v := -1) C d_Mod_removeAt_22 rfl ?_
      exact g_iret C Rr d_Mod_removeAt_23 rfl (by decide) (by decide) ⟨_, rfl, mkM.same hR hS (by unfold sRem; rw [if_pos (fun z => hv z.1)])⟩
    · exfalso; omega
set_option maxRecDepth 100000 in
set_option maxHeartbeats 4000000 in
theorem c_Mod_insertAt (N : gN) (w0 w : gW) (m : Nat) (R : RA) (S : St) (v i y : Int32) (hS : RefS R S) (hR : RefW w0 w m R S.length) : CtN N y_Mod_insertAt b_Mod_insertAt 4 (some FieldType.int) (rmm 5 133 0 0) [.ref m, .int v, .int i, .int y] w (pI (fun r w' => mkM w0 m (sIns S v i y) r w')) 0 0 := by
  refine ct_intro N [some (.ref m), some (.int v), some (.int i), some (.int y)] (by decide) rfl (Nat.le_of_ble_eq_true rfl) (by simp [Value.category]) ?_
  intro X hX C Rr
  have hk := hS.1.2.1
  refine g_aldn C d_Mod_insertAt_0 rfl ?_
  refine g_ldn C d_Mod_insertAt_1 rfl ?_
  by_cases hv : frz S v
  · refine g_callV (ci := kMod) C d_Mod_insertAt_2 cw_Mod_86 sl_Mod_frozen (c_Mod_frozen X.1 w0 w m R S v hS hR) rfl hR.2.1 (As := [.int (v)]) rfl rfl rfl (Nat.le_of_ble_eq_true rfl) ⟨rfl, rfl, by decide, by decide⟩ ⟨by decide, by decide⟩ (kI (fun r w2 h2 => ?_))
    rw [h2.1, h2.2, if_pos hv]
    refine g_if_eq C 22 d_Mod_insertAt_5 (by decide) (by first | exact nI_toInt (by omega) | rfl) (fun b5 => ?_) (fun b5 => ?_)
    · exfalso; omega
    · obtain ⟨a, ha, rfl⟩ := vOk_ex hv.1
      have ha31 : a < 2 ^ 31 := by omega
      have hV := (hS.2 a ha).1
      have hwf := hS.wf ha
      have hl := hwf.1
      have hh := hwf.2.1
      refine g_ldn C d_Mod_insertAt_8 rfl ?_
      refine g_if_lt C 22 d_Mod_insertAt_9 (by decide) rfl (fun b9 => ?_) (fun b9 => ?_)
      · refine g_iconst (v := -1) C d_Mod_insertAt_22 rfl ?_
        exact g_iret C Rr d_Mod_insertAt_23 rfl (by decide) (by decide) ⟨_, rfl, mkM.same hR hS (by unfold sIns; rw [if_pos (fun z => by have := z.2.1; omega)])⟩
      · refine g_ldn C d_Mod_insertAt_12 rfl ?_
        refine g_aldn C d_Mod_insertAt_13 rfl ?_
        refine r_f2 C d_Mod_insertAt_14 hR ?_
        refine g_ldn C d_Mod_insertAt_17 rfl ?_
        refine r_ld2 C d_Mod_insertAt_18 hR (by omega) hV.1 ?_
        refine g_icmp_le C 24 d_Mod_insertAt_19 (by decide) rfl (by first | exact nI_toInt (by omega) | rfl) (fun b19 => ?_) (fun b19 => ?_)
        · have hz : ¬ ¬ (frz S (nI a) ∧ 0 ≤ i.toInt ∧ i.toInt ≤ (vT S (nI a)).1.length) := fun z => z ⟨hv, by omega, by rw [vT_N ha31]; omega⟩
          rcases i32_sgn i with hi | ⟨c, hc, rfl⟩
          · exfalso; omega
          have tc := nI_toInt hc
          refine g_aldn C d_Mod_insertAt_24 rfl ?_
          refine r_f6 C d_Mod_insertAt_25 hR ?_
          refine g_bipush (v := nI 40) C d_Mod_insertAt_28 (by decide) ?_
          refine g_icmp_ne C 36 d_Mod_insertAt_30 (by decide) (by first | exact nI_toInt (by omega) | rfl) (by first | exact nI_toInt (by omega) | rfl) (fun b30 => ?_) (fun b30 => ?_)
          · refine g_aldn C d_Mod_insertAt_36 rfl ?_
            refine r_f2 C d_Mod_insertAt_37 hR ?_
            refine g_ldn C d_Mod_insertAt_40 rfl ?_
            refine r_ld2 C d_Mod_insertAt_41 hR (by omega) hV.1 ?_
            refine g_bipush (v := nI 80) C d_Mod_insertAt_42 (by decide) ?_
            refine g_icmp_ne C 50 d_Mod_insertAt_44 (by decide) (by first | exact nI_toInt (by omega) | rfl) (by first | exact nI_toInt (by omega) | rfl) (fun b44 => ?_) (fun b44 => ?_)
            · refine g_aldn C d_Mod_insertAt_50 rfl ?_
              refine g_iconst (v := nI 0) C d_Mod_insertAt_51 rfl ?_
              refine g_ldn C d_Mod_insertAt_52 rfl ?_
              refine g_callV (ci := kMod) C d_Mod_insertAt_53 cw_Mod_89 sl_Mod_load (c_Mod_load X.1 w0 w m R S.length 0 a (S_ S a).1 (by omega) (by omega) hwf hR hV) rfl hR.2.1 (As := [.int (nI 0), .int (nI a)]) rfl rfl rfl (Nat.le_of_ble_eq_true rfl) ⟨rfl, rfl, by decide, by decide⟩ ⟨by decide, by decide⟩ (kV (fun w2 h2 => ?_))
              obtain ⟨R2, hR2, hW2, hF2⟩ := h2
              have hS2 := hS.fr hF2.ver
              have hV2 := (hS2.2 a ha).1
              refine g_aldn C d_Mod_insertAt_56 rfl ?_
              refine g_iconst (v := nI 1) C d_Mod_insertAt_57 rfl ?_
              refine g_ldn C d_Mod_insertAt_58 rfl ?_
              refine g_callV (ci := kMod) C d_Mod_insertAt_59 cw_Mod_89 sl_Mod_load (c_Mod_load X.1 w0 w2 m R2 S.length 1 a (S_ S a).1 (by omega) (by omega) hwf hR2 hV2) rfl hR2.2.1 (As := [.int (nI 1), .int (nI a)]) rfl rfl rfl (Nat.le_of_ble_eq_true rfl) ⟨rfl, rfl, by decide, by decide⟩ ⟨by decide, by decide⟩ (kV (fun w3 h3 => ?_))
              obtain ⟨R3, hR3, hW3, hF3⟩ := h3
              have hS3 := hS2.fr hF3.ver
              have hX3_0 := hW2.frW hF3 (by omega)
              refine g_aldn C d_Mod_insertAt_62 rfl ?_
              refine g_iconst (v := nI 0) C d_Mod_insertAt_63 rfl ?_
              refine g_iconst (v := nI 0) C d_Mod_insertAt_64 rfl ?_
              refine g_ldn C d_Mod_insertAt_65 rfl ?_
              refine g_callV (ci := kMod) C d_Mod_insertAt_66 cw_Mod_107 sl_Mod_cut (c_Mod_cut X.1 w0 w3 m R3 S.length 0 (0) (c) (S_ S a).1 (by omega) (by omega) (by omega) hwf hR3 hX3_0) rfl hR3.2.1 (As := [.int (nI 0), .int (nI (0)), .int (nI (c))]) rfl rfl rfl (Nat.le_of_ble_eq_true rfl) ⟨rfl, rfl, by decide, by decide⟩ ⟨by decide, by decide⟩ (kV (fun w4 h4 => ?_))
              obtain ⟨R4, hR4, hW4, hF4⟩ := h4
              have hS4 := hS3.fr hF4.ver
              have hX4_1 := hW3.frW hF4 (by omega)
              have wP0 : wfT 4 (cutT (S_ S a).1 0 c) := cutT_wf hwf (by omega) (by omega)
              have wQ : wfT 4 (cutT (S_ S a).1 c (S_ S a).1.1.length) := cutT_wf hwf (by omega) (by omega)
              have lP : (cutT (S_ S a).1 0 c).1.length = c := by unfold cutT; simp; omega
              have lQ : (cutT (S_ S a).1 c (S_ S a).1.1.length).1.length = (S_ S a).1.1.length - c := by unfold cutT; simp
              refine g_aldn C d_Mod_insertAt_69 rfl ?_
              refine g_iconst (v := nI 0) C d_Mod_insertAt_70 rfl ?_
              refine g_ldn C d_Mod_insertAt_71 rfl ?_
              refine g_iconst (v := nI 1) C d_Mod_insertAt_72 rfl ?_
              refine g_callV (ci := kMod) C d_Mod_insertAt_73 cw_Mod_92 sl_Mod_add (c_Mod_addEnd X.1 w0 w4 m R4 S.length 0 y (cutT (S_ S a).1 0 c) (by omega) (wf_up wP0 (by omega)) (by omega) hR4 hW4) rfl hR4.2.1 (As := [.int (nI 0), .int y, .int (nI 1)]) rfl rfl rfl (Nat.le_of_ble_eq_true rfl) ⟨rfl, rfl, by decide, by decide⟩ ⟨by decide, by decide⟩ (kV (fun w5 h5 => ?_))
              obtain ⟨R5, hR5, hW5, hF5⟩ := h5
              have hS5 := hS4.fr hF5.ver
              have hX5_1 := hX4_1.frW hF5 (by omega)
              have wPP : wfT 5 (addEnd (cutT (S_ S a).1 0 c) y) := addEnd_wf wP0 (by omega) y
              have lPP : (addEnd (cutT (S_ S a).1 0 c) y).1.length = c + 1 := by unfold addEnd; simp [lP]
              have hV5 := (hS5.2 a ha).1
              refine g_aldn C d_Mod_insertAt_76 rfl ?_
              refine g_iconst (v := nI 1) C d_Mod_insertAt_77 rfl ?_
              refine g_ldn C d_Mod_insertAt_78 rfl ?_
              refine g_aldn C d_Mod_insertAt_79 rfl ?_
              refine r_f2 C d_Mod_insertAt_80 hR5 ?_
              refine g_ldn C d_Mod_insertAt_83 rfl ?_
              refine r_ld2 C d_Mod_insertAt_84 hR5 (by omega) hV5.1 ?_
              refine g_callV (ci := kMod) C d_Mod_insertAt_85 cw_Mod_107 sl_Mod_cut (c_Mod_cut X.1 w0 w5 m R5 S.length 1 (c) ((S_ S a).1.1.length) (S_ S a).1 (by omega) (by omega) (by omega) hwf hR5 hX5_1) rfl hR5.2.1 (As := [.int (nI 1), .int (nI (c)), .int (nI ((S_ S a).1.1.length))]) rfl rfl rfl (Nat.le_of_ble_eq_true rfl) ⟨rfl, rfl, by decide, by decide⟩ ⟨by decide, by decide⟩ (kV (fun w6 h6 => ?_))
              obtain ⟨R6, hR6, hW6, hF6⟩ := h6
              have hS6 := hS5.fr hF6.ver
              have hX6_0 := hW5.frW hF6 (by omega)
              refine g_aldn C d_Mod_insertAt_88 rfl ?_
              refine g_callV (ci := kMod) C d_Mod_insertAt_89 cw_Mod_104 sl_Mod_join (c_Mod_join X.1 w0 w6 m R6 S.length (addEnd (cutT (S_ S a).1 0 c) y) (cutT (S_ S a).1 c (S_ S a).1.1.length) (wPP) (wf_up wQ (by omega)) (by omega) hR6 hX6_0 hW6) rfl hR6.2.1 (As := []) rfl rfl rfl (Nat.le_of_ble_eq_true rfl) ⟨rfl, rfl, by decide, by decide⟩ ⟨by decide, by decide⟩ (kV (fun w7 h7 => ?_))
              obtain ⟨R7, hR7, hW7, hF7⟩ := h7
              have hS7 := hS6.fr hF7.ver
              have hX7_0 := hX6_0.frW hF7 (by omega)
              have hX7_1 := hW6.frW hF7 (by omega)
              refine g_aldn C d_Mod_insertAt_92 rfl ?_
              refine g_iconst (v := nI 2) C d_Mod_insertAt_93 rfl ?_
              refine g_callV (ci := kMod) C d_Mod_insertAt_94 cw_Mod_96 sl_Mod_newVersion (c_Mod_newVersion X.1 w0 w7 m R7 S 2 (joinT (addEnd (cutT (S_ S a).1 0 c) y) (cutT (S_ S a).1 c (S_ S a).1.1.length)) (by omega) (by omega) (joinT_wf wPP (wf_up wQ (by omega)) (by omega)) hR7 hS7 hW7) rfl hR7.2.1 (As := [.int (nI 2)]) rfl rfl rfl (Nat.le_of_ble_eq_true rfl) ⟨rfl, rfl, by decide, by decide⟩ ⟨by decide, by decide⟩ (kI (fun r w99 h99 => ?_))
              exact g_iret C Rr d_Mod_insertAt_97 rfl (by decide) (by decide) ⟨_, rfl, by unfold sIns; rw [if_neg hz, if_neg (by omega), vT_N ha31, if_neg (by omega), nI_tn hc]; exact h99⟩
            · refine g_bipush (v := (-3)) C d_Mod_insertAt_47 (by decide) ?_
              exact g_iret C Rr d_Mod_insertAt_49 rfl (by decide) (by decide) ⟨_, rfl, mkM.same hR hS (by unfold sIns; rw [if_neg hz, if_neg (by omega), vT_N ha31, if_pos (by omega)])⟩
          · refine g_bipush (v := (-2)) C d_Mod_insertAt_33 (by decide) ?_
            exact g_iret C Rr d_Mod_insertAt_35 rfl (by decide) (by decide) ⟨_, rfl, mkM.same hR hS (by unfold sIns; rw [if_neg hz, if_pos (by omega)])⟩
        · refine g_iconst (v := -1) C d_Mod_insertAt_22 rfl ?_
          exact g_iret C Rr d_Mod_insertAt_23 rfl (by decide) (by decide) ⟨_, rfl, mkM.same hR hS (by unfold sIns; rw [if_pos (fun z => by have := z.2.2; rw [vT_N ha31] at this; omega)])⟩
  · refine g_callV (ci := kMod) C d_Mod_insertAt_2 cw_Mod_86 sl_Mod_frozen (c_Mod_frozen X.1 w0 w m R S v hS hR) rfl hR.2.1 (As := [.int (v)]) rfl rfl rfl (Nat.le_of_ble_eq_true rfl) ⟨rfl, rfl, by decide, by decide⟩ ⟨by decide, by decide⟩ (kI (fun r w2 h2 => ?_))
    rw [h2.1, h2.2, if_neg hv]
    refine g_if_eq C 22 d_Mod_insertAt_5 (by decide) (by first | exact nI_toInt (by omega) | rfl) (fun b5 => ?_) (fun b5 => ?_)
    · refine g_iconst (v := -1) C d_Mod_insertAt_22 rfl ?_
      exact g_iret C Rr d_Mod_insertAt_23 rfl (by decide) (by decide) ⟨_, rfl, mkM.same hR hS (by unfold sIns; rw [if_pos (fun z => hv z.1)])⟩
    · exfalso; omega
set_option maxRecDepth 100000 in
set_option maxHeartbeats 4000000 in
theorem c_Mod_slice (N : gN) (w0 w : gW) (m : Nat) (R : RA) (S : St) (v f t : Int32) (hS : RefS R S) (hR : RefW w0 w m R S.length) : CtN N y_Mod_slice b_Mod_slice 4 (some FieldType.int) (rmm 3 72 0 0) [.ref m, .int v, .int f, .int t] w (pI (fun r w' => mkM w0 m (sSli S v f t) r w')) 0 0 := by
  refine ct_intro N [some (.ref m), some (.int v), some (.int f), some (.int t)] (by decide) rfl (Nat.le_of_ble_eq_true rfl) (by simp [Value.category]) ?_
  intro X hX C Rr
  have hk := hS.1.2.1
  refine g_aldn C d_Mod_slice_0 rfl ?_
  refine g_ldn C d_Mod_slice_1 rfl ?_
  by_cases hv : frz S v
  · refine g_callV (ci := kMod) C d_Mod_slice_2 cw_Mod_86 sl_Mod_frozen (c_Mod_frozen X.1 w0 w m R S v hS hR) rfl hR.2.1 (As := [.int (v)]) rfl rfl rfl (Nat.le_of_ble_eq_true rfl) ⟨rfl, rfl, by decide, by decide⟩ ⟨by decide, by decide⟩ (kI (fun r w2 h2 => ?_))
    rw [h2.1, h2.2, if_pos hv]
    refine g_if_eq C 27 d_Mod_slice_5 (by decide) (by first | exact nI_toInt (by omega) | rfl) (fun b5 => ?_) (fun b5 => ?_)
    · exfalso; omega
    · obtain ⟨a, ha, rfl⟩ := vOk_ex hv.1
      have ha31 : a < 2 ^ 31 := by omega
      have hV := (hS.2 a ha).1
      have hwf := hS.wf ha
      have hl := hwf.1
      have hh := hwf.2.1
      refine g_ldn C d_Mod_slice_8 rfl ?_
      refine g_if_lt C 27 d_Mod_slice_9 (by decide) rfl (fun b9 => ?_) (fun b9 => ?_)
      · refine g_iconst (v := -1) C d_Mod_slice_27 rfl ?_
        exact g_iret C Rr d_Mod_slice_28 rfl (by decide) (by decide) ⟨_, rfl, mkM.same hR hS (by unfold sSli; rw [if_pos (fun z => by have := z.2.1; omega)])⟩
      · refine g_ldn C d_Mod_slice_12 rfl ?_
        refine g_ldn C d_Mod_slice_13 rfl ?_
        refine g_icmp_gt C 27 d_Mod_slice_14 (by decide) rfl rfl (fun b14 => ?_) (fun b14 => ?_)
        · refine g_iconst (v := -1) C d_Mod_slice_27 rfl ?_
          exact g_iret C Rr d_Mod_slice_28 rfl (by decide) (by decide) ⟨_, rfl, mkM.same hR hS (by unfold sSli; rw [if_pos (fun z => by have := z.2.2.1; omega)])⟩
        · refine g_ldn C d_Mod_slice_17 rfl ?_
          refine g_aldn C d_Mod_slice_18 rfl ?_
          refine r_f2 C d_Mod_slice_19 hR ?_
          refine g_ldn C d_Mod_slice_22 rfl ?_
          refine r_ld2 C d_Mod_slice_23 hR (by omega) hV.1 ?_
          refine g_icmp_le C 29 d_Mod_slice_24 (by decide) rfl (by first | exact nI_toInt (by omega) | rfl) (fun b24 => ?_) (fun b24 => ?_)
          · have hz : ¬ ¬ (frz S (nI a) ∧ 0 ≤ f.toInt ∧ f.toInt ≤ t.toInt ∧ t.toInt ≤ (vT S (nI a)).1.length) := fun z => z ⟨hv, by omega, by omega, by rw [vT_N ha31]; omega⟩
            rcases i32_sgn f with hf | ⟨b, hb, rfl⟩
            · exfalso; omega
            rcases i32_sgn t with ht | ⟨c, hc, rfl⟩
            · exfalso; omega
            have tb := nI_toInt hb
            have tc := nI_toInt hc
            refine g_aldn C d_Mod_slice_29 rfl ?_
            refine r_f6 C d_Mod_slice_30 hR ?_
            refine g_bipush (v := nI 40) C d_Mod_slice_33 (by decide) ?_
            refine g_icmp_ne C 41 d_Mod_slice_35 (by decide) (by first | exact nI_toInt (by omega) | rfl) (by first | exact nI_toInt (by omega) | rfl) (fun b35 => ?_) (fun b35 => ?_)
            · refine g_aldn C d_Mod_slice_41 rfl ?_
              refine g_iconst (v := nI 0) C d_Mod_slice_42 rfl ?_
              refine g_ldn C d_Mod_slice_43 rfl ?_
              refine g_callV (ci := kMod) C d_Mod_slice_44 cw_Mod_89 sl_Mod_load (c_Mod_load X.1 w0 w m R S.length 0 a (S_ S a).1 (by omega) (by omega) hwf hR hV) rfl hR.2.1 (As := [.int (nI 0), .int (nI a)]) rfl rfl rfl (Nat.le_of_ble_eq_true rfl) ⟨rfl, rfl, by decide, by decide⟩ ⟨by decide, by decide⟩ (kV (fun w2 h2 => ?_))
              obtain ⟨R2, hR2, hW2, hF2⟩ := h2
              have hS2 := hS.fr hF2.ver
              refine g_aldn C d_Mod_slice_47 rfl ?_
              refine g_iconst (v := nI 0) C d_Mod_slice_48 rfl ?_
              refine g_ldn C d_Mod_slice_49 rfl ?_
              refine g_ldn C d_Mod_slice_50 rfl ?_
              refine g_callV (ci := kMod) C d_Mod_slice_51 cw_Mod_107 sl_Mod_cut (c_Mod_cut X.1 w0 w2 m R2 S.length 0 (b) (c) (S_ S a).1 (by omega) (by omega) (by omega) hwf hR2 hW2) rfl hR2.2.1 (As := [.int (nI 0), .int (nI (b)), .int (nI (c))]) rfl rfl rfl (Nat.le_of_ble_eq_true rfl) ⟨rfl, rfl, by decide, by decide⟩ ⟨by decide, by decide⟩ (kV (fun w3 h3 => ?_))
              obtain ⟨R3, hR3, hW3, hF3⟩ := h3
              have hS3 := hS2.fr hF3.ver
              refine g_aldn C d_Mod_slice_54 rfl ?_
              refine g_iconst (v := nI 0) C d_Mod_slice_55 rfl ?_
              refine g_callV (ci := kMod) C d_Mod_slice_56 cw_Mod_96 sl_Mod_newVersion (c_Mod_newVersion X.1 w0 w3 m R3 S 0 (cutT (S_ S a).1 b c) (by omega) (by omega) (wf_up (cutT_wf hwf (by omega) (by omega)) (by omega)) hR3 hS3 hW3) rfl hR3.2.1 (As := [.int (nI 0)]) rfl rfl rfl (Nat.le_of_ble_eq_true rfl) ⟨rfl, rfl, by decide, by decide⟩ ⟨by decide, by decide⟩ (kI (fun r w99 h99 => ?_))
              exact g_iret C Rr d_Mod_slice_59 rfl (by decide) (by decide) ⟨_, rfl, by unfold sSli; rw [if_neg hz, if_neg (by omega), vT_N ha31, nI_tn hb, nI_tn hc]; exact h99⟩
            · refine g_bipush (v := (-2)) C d_Mod_slice_38 (by decide) ?_
              exact g_iret C Rr d_Mod_slice_40 rfl (by decide) (by decide) ⟨_, rfl, mkM.same hR hS (by unfold sSli; rw [if_neg hz, if_pos (by omega)])⟩
          · refine g_iconst (v := -1) C d_Mod_slice_27 rfl ?_
            exact g_iret C Rr d_Mod_slice_28 rfl (by decide) (by decide) ⟨_, rfl, mkM.same hR hS (by unfold sSli; rw [if_pos (fun z => by have := z.2.2.2; rw [vT_N ha31] at this; omega)])⟩
  · refine g_callV (ci := kMod) C d_Mod_slice_2 cw_Mod_86 sl_Mod_frozen (c_Mod_frozen X.1 w0 w m R S v hS hR) rfl hR.2.1 (As := [.int (v)]) rfl rfl rfl (Nat.le_of_ble_eq_true rfl) ⟨rfl, rfl, by decide, by decide⟩ ⟨by decide, by decide⟩ (kI (fun r w2 h2 => ?_))
    rw [h2.1, h2.2, if_neg hv]
    refine g_if_eq C 27 d_Mod_slice_5 (by decide) (by first | exact nI_toInt (by omega) | rfl) (fun b5 => ?_) (fun b5 => ?_)
    · refine g_iconst (v := -1) C d_Mod_slice_27 rfl ?_
      exact g_iret C Rr d_Mod_slice_28 rfl (by decide) (by decide) ⟨_, rfl, mkM.same hR hS (by unfold sSli; rw [if_pos (fun z => hv z.1)])⟩
    · exfalso; omega
set_option maxRecDepth 100000 in
set_option maxHeartbeats 4000000 in
theorem c_Mod_concat (N : gN) (w0 w : gW) (m : Nat) (R : RA) (S : St) (v u : Int32) (hS : RefS R S) (hR : RefW w0 w m R S.length) : CtN N y_Mod_concat b_Mod_concat 3 (some FieldType.int) (rmm 5 133 0 0) [.ref m, .int v, .int u] w (pI (fun r w' => mkM w0 m (sCat S v u) r w')) 0 0 := by
  refine ct_intro N [some (.ref m), some (.int v), some (.int u)] (by decide) rfl (Nat.le_of_ble_eq_true rfl) (by simp [Value.category]) ?_
  intro X hX C Rr
  have hk := hS.1.2.1
  refine g_aldn C d_Mod_concat_0 rfl ?_
  refine g_ldn C d_Mod_concat_1 rfl ?_
  by_cases hv : frz S v
  · refine g_callV (ci := kMod) C d_Mod_concat_2 cw_Mod_86 sl_Mod_frozen (c_Mod_frozen X.1 w0 w m R S v hS hR) rfl hR.2.1 (As := [.int (v)]) rfl rfl rfl (Nat.le_of_ble_eq_true rfl) ⟨rfl, rfl, by decide, by decide⟩ ⟨by decide, by decide⟩ (kI (fun r w2 h2 => ?_))
    rw [h2.1, h2.2, if_pos hv]
    refine g_if_eq C 16 d_Mod_concat_5 (by decide) (by first | exact nI_toInt (by omega) | rfl) (fun b5 => ?_) (fun b5 => ?_)
    · exfalso; omega
    · refine g_aldn C d_Mod_concat_8 rfl ?_
      refine g_ldn C d_Mod_concat_9 rfl ?_
      by_cases hu : frz S u
      · refine g_callV (ci := kMod) C d_Mod_concat_10 cw_Mod_86 sl_Mod_frozen (c_Mod_frozen X.1 w0 w m R S u hS hR) rfl hR.2.1 (As := [.int (u)]) rfl rfl rfl (Nat.le_of_ble_eq_true rfl) ⟨rfl, rfl, by decide, by decide⟩ ⟨by decide, by decide⟩ (kI (fun r w2 h2 => ?_))
        rw [h2.1, h2.2, if_pos hu]
        refine g_if_ne C 18 d_Mod_concat_13 (by decide) (by first | exact nI_toInt (by omega) | rfl) (fun b13 => ?_) (fun b13 => ?_)
        · obtain ⟨a, ha, rfl⟩ := vOk_ex hv.1
          have ha31 : a < 2 ^ 31 := by omega
          have hV := (hS.2 a ha).1
          have hwf := hS.wf ha
          have hl := hwf.1
          have hh := hwf.2.1
          obtain ⟨c, hc, rfl⟩ := vOk_ex hu.1
          have hc31 : c < 2 ^ 31 := by omega
          have hU := (hS.2 c hc).1
          have wfU := hS.wf hc
          have ul := wfU.1
          refine g_aldn C d_Mod_concat_18 rfl ?_
          refine r_f6 C d_Mod_concat_19 hR ?_
          refine g_bipush (v := nI 40) C d_Mod_concat_22 (by decide) ?_
          refine g_icmp_ne C 30 d_Mod_concat_24 (by decide) (by first | exact nI_toInt (by omega) | rfl) (by first | exact nI_toInt (by omega) | rfl) (fun b24 => ?_) (fun b24 => ?_)
          · refine g_aldn C d_Mod_concat_30 rfl ?_
            refine r_f2 C d_Mod_concat_31 hR ?_
            refine g_ldn C d_Mod_concat_34 rfl ?_
            refine r_ld2 C d_Mod_concat_35 hR (by omega) hV.1 ?_
            refine g_aldn C d_Mod_concat_36 rfl ?_
            refine r_f2 C d_Mod_concat_37 hR ?_
            refine g_ldn C d_Mod_concat_40 rfl ?_
            refine r_ld2 C d_Mod_concat_41 hR (by omega) hU.1 ?_
            first | refine g_addN C d_Mod_concat_42 ?_ | refine g_add C d_Mod_concat_42 ?_
            refine g_bipush (v := nI 80) C d_Mod_concat_43 (by decide) ?_
            refine g_icmp_le C 51 d_Mod_concat_45 (by decide) (by first | exact nI_toInt (by omega) | rfl) (by first | exact nI_toInt (by omega) | rfl) (fun b45 => ?_) (fun b45 => ?_)
            · refine g_aldn C d_Mod_concat_51 rfl ?_
              refine g_iconst (v := nI 0) C d_Mod_concat_52 rfl ?_
              refine g_ldn C d_Mod_concat_53 rfl ?_
              refine g_callV (ci := kMod) C d_Mod_concat_54 cw_Mod_89 sl_Mod_load (c_Mod_load X.1 w0 w m R S.length 0 a (S_ S a).1 (by omega) (by omega) hwf hR hV) rfl hR.2.1 (As := [.int (nI 0), .int (nI a)]) rfl rfl rfl (Nat.le_of_ble_eq_true rfl) ⟨rfl, rfl, by decide, by decide⟩ ⟨by decide, by decide⟩ (kV (fun w2 h2 => ?_))
              obtain ⟨R2, hR2, hW2, hF2⟩ := h2
              have hS2 := hS.fr hF2.ver
              have hU2 := (hS2.2 c hc).1
              refine g_aldn C d_Mod_concat_57 rfl ?_
              refine g_iconst (v := nI 1) C d_Mod_concat_58 rfl ?_
              refine g_ldn C d_Mod_concat_59 rfl ?_
              refine g_callV (ci := kMod) C d_Mod_concat_60 cw_Mod_89 sl_Mod_load (c_Mod_load X.1 w0 w2 m R2 S.length 1 c (S_ S c).1 (by omega) (by omega) wfU hR2 hU2) rfl hR2.2.1 (As := [.int (nI 1), .int (nI c)]) rfl rfl rfl (Nat.le_of_ble_eq_true rfl) ⟨rfl, rfl, by decide, by decide⟩ ⟨by decide, by decide⟩ (kV (fun w3 h3 => ?_))
              obtain ⟨R3, hR3, hW3, hF3⟩ := h3
              have hS3 := hS2.fr hF3.ver
              have hX3_0 := hW2.frW hF3 (by omega)
              refine g_aldn C d_Mod_concat_63 rfl ?_
              refine g_callV (ci := kMod) C d_Mod_concat_64 cw_Mod_104 sl_Mod_join (c_Mod_join X.1 w0 w3 m R3 S.length (S_ S a).1 (S_ S c).1 (wf_up hwf (by omega)) (wf_up wfU (by omega)) (by omega) hR3 hX3_0 hW3) rfl hR3.2.1 (As := []) rfl rfl rfl (Nat.le_of_ble_eq_true rfl) ⟨rfl, rfl, by decide, by decide⟩ ⟨by decide, by decide⟩ (kV (fun w4 h4 => ?_))
              obtain ⟨R4, hR4, hW4, hF4⟩ := h4
              have hS4 := hS3.fr hF4.ver
              have hX4_0 := hX3_0.frW hF4 (by omega)
              have hX4_1 := hW3.frW hF4 (by omega)
              refine g_aldn C d_Mod_concat_67 rfl ?_
              refine g_iconst (v := nI 2) C d_Mod_concat_68 rfl ?_
              refine g_callV (ci := kMod) C d_Mod_concat_69 cw_Mod_96 sl_Mod_newVersion (c_Mod_newVersion X.1 w0 w4 m R4 S 2 (joinT (S_ S a).1 (S_ S c).1) (by omega) (by omega) (wf_up (joinT_wf hwf wfU (by omega)) (by omega)) hR4 hS4 hW4) rfl hR4.2.1 (As := [.int (nI 2)]) rfl rfl rfl (Nat.le_of_ble_eq_true rfl) ⟨rfl, rfl, by decide, by decide⟩ ⟨by decide, by decide⟩ (kI (fun r w99 h99 => ?_))
              exact g_iret C Rr d_Mod_concat_72 rfl (by decide) (by decide) ⟨_, rfl, by unfold sCat; rw [if_neg (fun z => z ⟨hv, hu⟩), if_neg (by omega), vT_N ha31, vT_N hc31, if_neg (by omega)]; exact h99⟩
            · refine g_bipush (v := (-3)) C d_Mod_concat_48 (by decide) ?_
              exact g_iret C Rr d_Mod_concat_50 rfl (by decide) (by decide) ⟨_, rfl, mkM.same hR hS (by unfold sCat; rw [if_neg (fun z => z ⟨hv, hu⟩), if_neg (by omega), vT_N ha31, vT_N hc31, if_pos (by omega)])⟩
          · refine g_bipush (v := (-2)) C d_Mod_concat_27 (by decide) ?_
            exact g_iret C Rr d_Mod_concat_29 rfl (by decide) (by decide) ⟨_, rfl, mkM.same hR hS (by unfold sCat; rw [if_neg (fun z => z ⟨hv, hu⟩), if_pos (by omega)])⟩
        · exfalso; omega
      · refine g_callV (ci := kMod) C d_Mod_concat_10 cw_Mod_86 sl_Mod_frozen (c_Mod_frozen X.1 w0 w m R S u hS hR) rfl hR.2.1 (As := [.int (u)]) rfl rfl rfl (Nat.le_of_ble_eq_true rfl) ⟨rfl, rfl, by decide, by decide⟩ ⟨by decide, by decide⟩ (kI (fun r w2 h2 => ?_))
        rw [h2.1, h2.2, if_neg hu]
        refine g_if_ne C 18 d_Mod_concat_13 (by decide) (by first | exact nI_toInt (by omega) | rfl) (fun b13 => ?_) (fun b13 => ?_)
        · exfalso; omega
        · refine g_iconst (v := -1) C d_Mod_concat_16 rfl ?_
          exact g_iret C Rr d_Mod_concat_17 rfl (by decide) (by decide) ⟨_, rfl, mkM.same hR hS (by unfold sCat; rw [if_pos (fun z => hu z.2)])⟩
  · refine g_callV (ci := kMod) C d_Mod_concat_2 cw_Mod_86 sl_Mod_frozen (c_Mod_frozen X.1 w0 w m R S v hS hR) rfl hR.2.1 (As := [.int (v)]) rfl rfl rfl (Nat.le_of_ble_eq_true rfl) ⟨rfl, rfl, by decide, by decide⟩ ⟨by decide, by decide⟩ (kI (fun r w2 h2 => ?_))
    rw [h2.1, h2.2, if_neg hv]
    refine g_if_eq C 16 d_Mod_concat_5 (by decide) (by first | exact nI_toInt (by omega) | rfl) (fun b5 => ?_) (fun b5 => ?_)
    · refine g_iconst (v := -1) C d_Mod_concat_16 rfl ?_
      exact g_iret C Rr d_Mod_concat_17 rfl (by decide) (by decide) ⟨_, rfl, mkM.same hR hS (by unfold sCat; rw [if_pos (fun z => hv z.1)])⟩
    · exfalso; omega
