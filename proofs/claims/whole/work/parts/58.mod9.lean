/-! THE REFERENCE: thaw, push, put, freeze; its questions. -/
set_option maxRecDepth 100000 in
set_option maxHeartbeats 4000000 in
theorem c_Mod_thaw (N : gN) (w0 w : gW) (m : Nat) (R : RA) (S : St) (v : Int32) (hS : RefS R S) (hR : RefW w0 w m R S.length) : CtN N y_Mod_thaw b_Mod_thaw 3 (some FieldType.int) (rmm 3 68 0 0) [.ref m, .int v] w (pI (fun r w' => mkM w0 m (sThaw S v) r w')) 0 0 := by
  refine ct_intro N [some (.ref m), some (.int v), none] (by decide) rfl (Nat.le_of_ble_eq_true rfl) (by simp [Value.category]) ?_
  intro X hX C Rr
  have hk := hS.1.2.1
  refine g_aldn C d_Mod_thaw_0 rfl ?_
  refine g_ldn C d_Mod_thaw_1 rfl ?_
  by_cases hv : frz S v
  · refine g_callV (ci := kMod) C d_Mod_thaw_2 cw_Mod_86 sl_Mod_frozen (c_Mod_frozen X.1 w0 w m R S v hS hR) rfl hR.2.1 (As := [.int (v)]) rfl rfl rfl (Nat.le_of_ble_eq_true rfl) ⟨rfl, rfl, by decide, by decide⟩ ⟨by decide, by decide⟩ (kI (fun r w2 h2 => ?_))
    rw [h2.1, h2.2, if_pos hv]
    refine g_if_ne C 10 d_Mod_thaw_5 (by decide) (by first | exact nI_toInt (by omega) | rfl) (fun b5 => ?_) (fun b5 => ?_)
    · obtain ⟨a, ha, rfl⟩ := vOk_ex hv.1
      have ha31 : a < 2 ^ 31 := by omega
      have hV := (hS.2 a ha).1
      have hwf := hS.wf ha
      have hl := hwf.1
      have hh := hwf.2.1
      refine g_aldn C d_Mod_thaw_10 rfl ?_
      refine r_f6 C d_Mod_thaw_11 hR ?_
      refine g_bipush (v := nI 40) C d_Mod_thaw_14 (by decide) ?_
      refine g_icmp_ne C 22 d_Mod_thaw_16 (by decide) (by first | exact nI_toInt (by omega) | rfl) (by first | exact nI_toInt (by omega) | rfl) (fun b16 => ?_) (fun b16 => ?_)
      · refine g_aldn C d_Mod_thaw_22 rfl ?_
        refine g_iconst (v := nI 0) C d_Mod_thaw_23 rfl ?_
        refine g_ldn C d_Mod_thaw_24 rfl ?_
        refine g_callV (ci := kMod) C d_Mod_thaw_25 cw_Mod_89 sl_Mod_load (c_Mod_load X.1 w0 w m R S.length 0 a (S_ S a).1 (by omega) (by omega) hwf hR hV) rfl hR.2.1 (As := [.int (nI 0), .int (nI a)]) rfl rfl rfl (Nat.le_of_ble_eq_true rfl) ⟨rfl, rfl, by decide, by decide⟩ ⟨by decide, by decide⟩ (kV (fun w2 h2 => ?_))
        obtain ⟨R2, hR2, hW2, hF2⟩ := h2
        have hS2 := hS.fr hF2.ver
        refine g_aldn C d_Mod_thaw_28 rfl ?_
        refine g_iconst (v := nI 0) C d_Mod_thaw_29 rfl ?_
        refine g_callV (ci := kMod) C d_Mod_thaw_30 cw_Mod_96 sl_Mod_newVersion (c_Mod_newVersion X.1 w0 w2 m R2 S 0 (S_ S a).1 (by omega) (by omega) (wf_up hwf (by omega)) hR2 hS2 hW2) rfl hR2.2.1 (As := [.int (nI 0)]) rfl rfl rfl (Nat.le_of_ble_eq_true rfl) ⟨rfl, rfl, by decide, by decide⟩ ⟨by decide, by decide⟩ (kI (fun r w9 h9 => ?_))
        obtain ⟨e9, R9, hR9, hS9⟩ := h9
        have ek : sKeep S (S_ S a).1 false = (nI S.length, S ++ [((S_ S a).1, false)]) := by unfold sKeep; rw [if_neg (by omega)]
        rw [ek] at e9 hR9 hS9
        rw [e9]
        refine g_stn C [_, _, _] d_Mod_thaw_33 (Nat.le_of_ble_eq_true rfl) rfl ?_
        refine g_aldn C d_Mod_thaw_34 rfl ?_
        refine r_f5 C d_Mod_thaw_35 hR9 ?_
        refine g_ldn C d_Mod_thaw_38 rfl ?_
        refine g_iconst (v := nI 1) C d_Mod_thaw_39 rfl ?_
        refine r_st5 C d_Mod_thaw_40 hR9 (by omega) (fun w10 hR10 => ?_)
        rw [show vp_nar .boolean (nI 1) = nI 1 from rfl] at hR10
        refine g_ldn C d_Mod_thaw_41 rfl ?_
        have hq := hS9.set (R' := rup R9 5 S.length (nI 1)) (a := S.length) (T := (S_ S a).1) (b := true) (by simp) hwf ((by have := (hS9.2 S.length (by simp)).1; rw [gd_last] at this; exact this : VerR R9 S.length (S_ S a).1).fr (fun k j hk => rupn (by omega))) rups (fun i hi hne => ⟨(hS9.2 i hi).1.fr (fun k j hk => rupn (by omega)), rupn (by omega)⟩)
        rw [set_last] at hq
        exact g_iret C Rr d_Mod_thaw_42 rfl (by decide) (by decide) ⟨_, rfl, by unfold sThaw sKeep; rw [if_neg (fun z => z hv), if_neg (by omega), vT_N ha31, if_neg (by omega)], _, by unfold sThaw sKeep; rw [if_neg (fun z => z hv), if_neg (by omega), vT_N ha31, if_neg (by omega)]; show RefW _ _ _ _ (S ++ [((S_ S a).1, true)]).length; rw [show (S ++ [((S_ S a).1, true)]).length = (S ++ [((S_ S a).1, false)]).length by simp]; exact hR10, by unfold sThaw sKeep; rw [if_neg (fun z => z hv), if_neg (by omega), vT_N ha31, if_neg (by omega)]; exact hq⟩
      · refine g_bipush (v := (-2)) C d_Mod_thaw_19 (by decide) ?_
        exact g_iret C Rr d_Mod_thaw_21 rfl (by decide) (by decide) ⟨_, rfl, mkM.same hR hS (by unfold sThaw; rw [if_neg (fun z => z hv), if_pos (by omega)])⟩
    · exfalso; omega
  · refine g_callV (ci := kMod) C d_Mod_thaw_2 cw_Mod_86 sl_Mod_frozen (c_Mod_frozen X.1 w0 w m R S v hS hR) rfl hR.2.1 (As := [.int (v)]) rfl rfl rfl (Nat.le_of_ble_eq_true rfl) ⟨rfl, rfl, by decide, by decide⟩ ⟨by decide, by decide⟩ (kI (fun r w2 h2 => ?_))
    rw [h2.1, h2.2, if_neg hv]
    refine g_if_ne C 10 d_Mod_thaw_5 (by decide) (by first | exact nI_toInt (by omega) | rfl) (fun b5 => ?_) (fun b5 => ?_)
    · exfalso; omega
    · refine g_iconst (v := -1) C d_Mod_thaw_8 rfl ?_
      exact g_iret C Rr d_Mod_thaw_9 rfl (by decide) (by decide) ⟨_, rfl, mkM.same hR hS (by unfold sThaw; rw [if_pos hv])⟩
set_option maxRecDepth 100000 in
set_option maxHeartbeats 4000000 in
theorem c_Mod_freeze (N : gN) (w0 w : gW) (m : Nat) (R : RA) (S : St) (v : Int32) (hS : RefS R S) (hR : RefW w0 w m R S.length) : CtN N y_Mod_freeze b_Mod_freeze 2 (some FieldType.boolean) (rmm 1 21 0 0) [.ref m, .int v] w (pI (fun r w' => mkM w0 m (sFrz S v) r w')) 0 0 := by
  refine ct_intro N [some (.ref m), some (.int v)] (by decide) rfl (Nat.le_of_ble_eq_true rfl) (by simp [Value.category]) ?_
  intro X hX C Rr
  have hk := hS.1.2.1
  refine g_aldn C d_Mod_freeze_0 rfl ?_
  refine g_ldn C d_Mod_freeze_1 rfl ?_
  by_cases hv : vOk S v
  · refine g_callV (ci := kMod) C d_Mod_freeze_2 cw_Mod_55 sl_Mod_there (c_Mod_there X.1 w0 w m R S v hk hR) rfl hR.2.1 (As := [.int (v)]) rfl rfl rfl (Nat.le_of_ble_eq_true rfl) ⟨rfl, rfl, by decide, by decide⟩ ⟨by decide, by decide⟩ (kI (fun r w2 h2 => ?_))
    rw [h2.1, h2.2, if_pos hv]
    refine g_if_eq C 17 d_Mod_freeze_5 (by decide) (by first | exact nI_toInt (by omega) | rfl) (fun b5 => ?_) (fun b5 => ?_)
    · exfalso; omega
    · obtain ⟨a, ha, rfl⟩ := vOk_ex hv
      have ha31 : a < 2 ^ 31 := by omega
      have hV := (hS.2 a ha).1
      have hwf := hS.wf ha
      have hl := hwf.1
      have hh := hwf.2.1
      refine g_aldn C d_Mod_freeze_8 rfl ?_
      refine r_f5 C d_Mod_freeze_9 hR ?_
      refine g_ldn C d_Mod_freeze_12 rfl ?_
      refine r_ld5 C d_Mod_freeze_13 hR (by omega) (hS.2 a ha).2 ?_
      by_cases hb : (S_ S a).2 = true
      · have ho : opn S (nI a) := ⟨hv, (vO_N ha31).trans hb⟩
        rw [if_pos hb]
        refine g_if_ne C 19 d_Mod_freeze_14 (by decide) (by first | exact nI_toInt (by omega) | rfl) (fun b14 => ?_) (fun b14 => ?_)
        · refine g_aldn C d_Mod_freeze_19 rfl ?_
          refine r_f5 C d_Mod_freeze_20 hR ?_
          refine g_ldn C d_Mod_freeze_23 rfl ?_
          refine g_iconst (v := nI 0) C d_Mod_freeze_24 rfl ?_
          refine r_st5 C d_Mod_freeze_25 hR (by omega) (fun w9 hR9 => ?_)
          rw [show vp_nar .boolean (nI 0) = nI 0 from rfl] at hR9
          refine g_iconst (v := nI 1) C d_Mod_freeze_26 rfl ?_
          have hq := hS.set (R' := rup R 5 a (nI 0)) (b := false) ha hwf (hV.fr (fun k j hk => rupn (by omega))) rups (fun i hi hne => ⟨(hS.2 i hi).1.fr (fun k j hk => rupn (by omega)), rupn (by omega)⟩)
          exact g_iret C Rr d_Mod_freeze_27 rfl (by decide) (by decide) ⟨_, rfl, by unfold sFrz; rw [if_neg (fun z => z ho), vT_N ha31, nI_tn ha31]; rfl, _, by unfold sFrz; rw [if_neg (fun z => z ho), vT_N ha31, nI_tn ha31]; show RefW _ _ _ _ (S.set a ((S_ S a).1, false)).length; rw [List.length_set]; exact hR9, by unfold sFrz; rw [if_neg (fun z => z ho), vT_N ha31, nI_tn ha31]; exact hq⟩
        · exfalso; omega
      · have hno : ¬ opn S (nI a) := fun z => by have := z.2; rw [vO_N ha31] at this; exact hb this
        rw [if_neg hb]
        refine g_if_ne C 19 d_Mod_freeze_14 (by decide) (by first | exact nI_toInt (by omega) | rfl) (fun b14 => ?_) (fun b14 => ?_)
        · exfalso; omega
        · refine g_iconst (v := nI 0) C d_Mod_freeze_17 rfl ?_
          exact g_iret C Rr d_Mod_freeze_18 rfl (by decide) (by decide) ⟨_, rfl, mkM.same hR hS (by unfold sFrz; rw [if_pos hno]; rfl)⟩
  · have hno : ¬ opn S v := fun z => hv z.1
    refine g_callV (ci := kMod) C d_Mod_freeze_2 cw_Mod_55 sl_Mod_there (c_Mod_there X.1 w0 w m R S v hk hR) rfl hR.2.1 (As := [.int (v)]) rfl rfl rfl (Nat.le_of_ble_eq_true rfl) ⟨rfl, rfl, by decide, by decide⟩ ⟨by decide, by decide⟩ (kI (fun r w2 h2 => ?_))
    rw [h2.1, h2.2, if_neg hv]
    refine g_if_eq C 17 d_Mod_freeze_5 (by decide) (by first | exact nI_toInt (by omega) | rfl) (fun b5 => ?_) (fun b5 => ?_)
    · refine g_iconst (v := nI 0) C d_Mod_freeze_17 rfl ?_
      exact g_iret C Rr d_Mod_freeze_18 rfl (by decide) (by decide) ⟨_, rfl, mkM.same hR hS (by unfold sFrz; rw [if_pos hno]; rfl)⟩
    · exfalso; omega
theorem VerR.put {R : RA} {a c : Nat} {T : Tr} {y : Int32} (h : VerR R a T) (hc : c < T.1.length) : VerR (rup R 0 (80 * a + c) y) a (setT T (nI c) y) ∨ 2 ^ 31 ≤ c := by
  by_cases h31 : c < 2 ^ 31
  · left
    have e : setT T (nI c) y = (T.1.set c y, T.2) := by unfold setT; rw [nI_tn h31]
    rw [e]
    obtain ⟨h1, h2, h3, h4⟩ := h
    refine ⟨?_, fun i hi => ?_, (rupn (by omega)).trans h3, fun l l1 l4 => ⟨(rupn (by omega)).trans (h4 l l1 l4).1, fun b hb => (rupn (by omega)).trans ((h4 l l1 l4).2 b hb)⟩⟩
    · show _ = nI (T.1.set c y).length
      rw [List.length_set]; exact (rupn (by omega)).trans h1
    · have hi : i < (T.1.set c y).length := hi
      rw [List.length_set] at hi
      show _ = gd 0 (T.1.set c y) i
      rw [gd_set hc]
      by_cases e : i = c
      · subst e; rw [if_pos rfl]; exact rups
      · rw [if_neg e, rupn (by omega)]; exact h2 i hi
  · right; omega
set_option maxRecDepth 100000 in
set_option maxHeartbeats 4000000 in
theorem c_Mod_put (N : gN) (w0 w : gW) (m : Nat) (R : RA) (S : St) (v i y : Int32) (hS : RefS R S) (hR : RefW w0 w m R S.length) : CtN N y_Mod_put b_Mod_put 4 (some FieldType.boolean) (rmm 1 21 0 0) [.ref m, .int v, .int i, .int y] w (pI (fun r w' => mkM w0 m (sPut S v i y) r w')) 0 0 := by
  refine ct_intro N [some (.ref m), some (.int v), some (.int i), some (.int y)] (by decide) rfl (Nat.le_of_ble_eq_true rfl) (by simp [Value.category]) ?_
  intro X hX C Rr
  have hk := hS.1.2.1
  refine g_aldn C d_Mod_put_0 rfl ?_
  refine g_ldn C d_Mod_put_1 rfl ?_
  by_cases hv : vOk S v
  · refine g_callV (ci := kMod) C d_Mod_put_2 cw_Mod_55 sl_Mod_there (c_Mod_there X.1 w0 w m R S v hk hR) rfl hR.2.1 (As := [.int (v)]) rfl rfl rfl (Nat.le_of_ble_eq_true rfl) ⟨rfl, rfl, by decide, by decide⟩ ⟨by decide, by decide⟩ (kI (fun r w2 h2 => ?_))
    rw [h2.1, h2.2, if_pos hv]
    refine g_if_eq C 31 d_Mod_put_5 (by decide) (by first | exact nI_toInt (by omega) | rfl) (fun b5 => ?_) (fun b5 => ?_)
    · exfalso; omega
    · obtain ⟨a, ha, rfl⟩ := vOk_ex hv
      have ha31 : a < 2 ^ 31 := by omega
      have hV := (hS.2 a ha).1
      have hwf := hS.wf ha
      have hl := hwf.1
      have hh := hwf.2.1
      refine g_aldn C d_Mod_put_8 rfl ?_
      refine r_f5 C d_Mod_put_9 hR ?_
      refine g_ldn C d_Mod_put_12 rfl ?_
      refine r_ld5 C d_Mod_put_13 hR (by omega) (hS.2 a ha).2 ?_
      by_cases hb : (S_ S a).2 = true
      · have ho : opn S (nI a) := ⟨hv, (vO_N ha31).trans hb⟩
        rw [if_pos hb]
        refine g_if_eq C 31 d_Mod_put_14 (by decide) (by first | exact nI_toInt (by omega) | rfl) (fun b14 => ?_) (fun b14 => ?_)
        · exfalso; omega
        · refine g_ldn C d_Mod_put_17 rfl ?_
          refine g_if_lt C 31 d_Mod_put_18 (by decide) rfl (fun b18 => ?_) (fun b18 => ?_)
          · refine g_iconst (v := nI 0) C d_Mod_put_31 rfl ?_
            exact g_iret C Rr d_Mod_put_32 rfl (by decide) (by decide) ⟨_, rfl, mkM.same hR hS (by unfold sPut; rw [if_pos (fun z => by have := z.2.1; omega)]; rfl)⟩
          · refine g_ldn C d_Mod_put_21 rfl ?_
            refine g_aldn C d_Mod_put_22 rfl ?_
            refine r_f2 C d_Mod_put_23 hR ?_
            refine g_ldn C d_Mod_put_26 rfl ?_
            refine r_ld2 C d_Mod_put_27 hR (by omega) hV.1 ?_
            refine g_icmp_lt C 33 d_Mod_put_28 (by decide) rfl (by first | exact nI_toInt (by omega) | rfl) (fun b28 => ?_) (fun b28 => ?_)
            · have hz : ¬ ¬ (opn S (nI a) ∧ plc S (nI a) i) := fun z => z ⟨ho, by omega, by rw [vT_N ha31]; omega⟩
              rcases i32_sgn i with hi | ⟨c, hc, rfl⟩
              · exfalso; omega
              have tc := nI_toInt hc
              refine g_aldn C d_Mod_put_33 rfl ?_
              refine r_f0 C d_Mod_put_34 hR ?_
              refine g_bipush (v := nI 80) C d_Mod_put_37 (by decide) ?_
              refine g_ldn C d_Mod_put_39 rfl ?_
              first | refine g_mulN C d_Mod_put_40 ?_ | refine g_mul C d_Mod_put_40 ?_
              refine g_ldn C d_Mod_put_41 rfl ?_
              first | refine g_addN C d_Mod_put_42 ?_ | refine g_add C d_Mod_put_42 ?_
              refine g_ldn C d_Mod_put_43 rfl ?_
              refine r_st0 C d_Mod_put_44 hR (by omega) (fun w9 hR9 => ?_)
              refine g_iconst (v := nI 1) C d_Mod_put_45 rfl ?_
              have hP := (hV.put (c := c) (y := y) (by omega)).resolve_right (by omega)
              have hq := hS.set (R' := rup R 0 (80 * a + c) y) (b := true) ha (setT_wf hwf (nI c) y) hP ((rupn (by omega)).trans ((hS.2 a ha).2.trans (by rw [hb]))) (fun i hi hne => ⟨(hS.2 i hi).1.frV (v := a) (FrV.rf.up (by unfold VA; omega)) hne (hS.wf hi), rupn (by omega)⟩)
              exact g_iret C Rr d_Mod_put_46 rfl (by decide) (by decide) ⟨_, rfl, by unfold sPut; rw [if_neg hz, vT_N ha31, nI_tn ha31]; rfl, _, by unfold sPut; rw [if_neg hz, vT_N ha31, nI_tn ha31]; show RefW _ _ _ _ (S.set a (setT (S_ S a).1 (nI c) y, true)).length; rw [List.length_set]; exact hR9, by unfold sPut; rw [if_neg hz, vT_N ha31, nI_tn ha31]; exact hq⟩
            · refine g_iconst (v := nI 0) C d_Mod_put_31 rfl ?_
              exact g_iret C Rr d_Mod_put_32 rfl (by decide) (by decide) ⟨_, rfl, mkM.same hR hS (by unfold sPut; rw [if_pos (fun z => by have := z.2.2; rw [vT_N ha31] at this; omega)]; rfl)⟩
      · have hno : ¬ opn S (nI a) := fun z => by have := z.2; rw [vO_N ha31] at this; exact hb this
        rw [if_neg hb]
        refine g_if_eq C 31 d_Mod_put_14 (by decide) (by first | exact nI_toInt (by omega) | rfl) (fun b14 => ?_) (fun b14 => ?_)
        · refine g_iconst (v := nI 0) C d_Mod_put_31 rfl ?_
          exact g_iret C Rr d_Mod_put_32 rfl (by decide) (by decide) ⟨_, rfl, mkM.same hR hS (by unfold sPut; rw [if_pos (fun z => hno z.1)]; rfl)⟩
        · exfalso; omega
  · have hno : ¬ opn S v := fun z => hv z.1
    refine g_callV (ci := kMod) C d_Mod_put_2 cw_Mod_55 sl_Mod_there (c_Mod_there X.1 w0 w m R S v hk hR) rfl hR.2.1 (As := [.int (v)]) rfl rfl rfl (Nat.le_of_ble_eq_true rfl) ⟨rfl, rfl, by decide, by decide⟩ ⟨by decide, by decide⟩ (kI (fun r w2 h2 => ?_))
    rw [h2.1, h2.2, if_neg hv]
    refine g_if_eq C 31 d_Mod_put_5 (by decide) (by first | exact nI_toInt (by omega) | rfl) (fun b5 => ?_) (fun b5 => ?_)
    · refine g_iconst (v := nI 0) C d_Mod_put_31 rfl ?_
      exact g_iret C Rr d_Mod_put_32 rfl (by decide) (by decide) ⟨_, rfl, mkM.same hR hS (by unfold sPut; rw [if_pos (fun z => hno z.1)]; rfl)⟩
    · exfalso; omega
set_option maxRecDepth 100000 in
set_option maxHeartbeats 4000000 in
theorem c_Mod_push (N : gN) (w0 w : gW) (m : Nat) (R : RA) (S : St) (v y : Int32) (hS : RefS R S) (hR : RefW w0 w m R S.length) : CtN N y_Mod_push b_Mod_push 3 (some FieldType.boolean) (rmm 3 76 0 0) [.ref m, .int v, .int y] w (pI (fun r w' => mkM w0 m (sPush S v y) r w')) 0 0 := by
  refine ct_intro N [some (.ref m), some (.int v), some (.int y)] (by decide) rfl (Nat.le_of_ble_eq_true rfl) (by simp [Value.category]) ?_
  intro X hX C Rr
  have hk := hS.1.2.1
  refine g_aldn C d_Mod_push_0 rfl ?_
  refine g_ldn C d_Mod_push_1 rfl ?_
  by_cases hv : vOk S v
  · refine g_callV (ci := kMod) C d_Mod_push_2 cw_Mod_55 sl_Mod_there (c_Mod_there X.1 w0 w m R S v hk hR) rfl hR.2.1 (As := [.int (v)]) rfl rfl rfl (Nat.le_of_ble_eq_true rfl) ⟨rfl, rfl, by decide, by decide⟩ ⟨by decide, by decide⟩ (kI (fun r w2 h2 => ?_))
    rw [h2.1, h2.2, if_pos hv]
    refine g_if_eq C 28 d_Mod_push_5 (by decide) (by first | exact nI_toInt (by omega) | rfl) (fun b5 => ?_) (fun b5 => ?_)
    · exfalso; omega
    · obtain ⟨a, ha, rfl⟩ := vOk_ex hv
      have ha31 : a < 2 ^ 31 := by omega
      have hV := (hS.2 a ha).1
      have hwf := hS.wf ha
      have hl := hwf.1
      have hh := hwf.2.1
      refine g_aldn C d_Mod_push_8 rfl ?_
      refine r_f5 C d_Mod_push_9 hR ?_
      refine g_ldn C d_Mod_push_12 rfl ?_
      refine r_ld5 C d_Mod_push_13 hR (by omega) (hS.2 a ha).2 ?_
      by_cases hb : (S_ S a).2 = true
      · have ho : opn S (nI a) := ⟨hv, (vO_N ha31).trans hb⟩
        rw [if_pos hb]
        refine g_if_eq C 28 d_Mod_push_14 (by decide) (by first | exact nI_toInt (by omega) | rfl) (fun b14 => ?_) (fun b14 => ?_)
        · exfalso; omega
        · refine g_aldn C d_Mod_push_17 rfl ?_
          refine r_f2 C d_Mod_push_18 hR ?_
          refine g_ldn C d_Mod_push_21 rfl ?_
          refine r_ld2 C d_Mod_push_22 hR (by omega) hV.1 ?_
          refine g_bipush (v := nI 80) C d_Mod_push_23 (by decide) ?_
          refine g_icmp_ne C 30 d_Mod_push_25 (by decide) (by first | exact nI_toInt (by omega) | rfl) (by first | exact nI_toInt (by omega) | rfl) (fun b25 => ?_) (fun b25 => ?_)
          · have hn : ¬ (¬ opn S (nI a) ∨ 80 ≤ (vT S (nI a)).1.length) := by rw [vT_N ha31]; exact fun z => z.elim (fun q => q ho) (fun q => by omega)
            refine g_aldn C d_Mod_push_30 rfl ?_
            refine g_iconst (v := nI 0) C d_Mod_push_31 rfl ?_
            refine g_ldn C d_Mod_push_32 rfl ?_
            refine g_callV (ci := kMod) C d_Mod_push_33 cw_Mod_89 sl_Mod_load (c_Mod_load X.1 w0 w m R S.length 0 a (S_ S a).1 (by omega) (by omega) hwf hR hV) rfl hR.2.1 (As := [.int (nI 0), .int (nI a)]) rfl rfl rfl (Nat.le_of_ble_eq_true rfl) ⟨rfl, rfl, by decide, by decide⟩ ⟨by decide, by decide⟩ (kV (fun w2 h2 => ?_))
            obtain ⟨R2, hR2, hW2, hF2⟩ := h2
            have hS2 := hS.fr hF2.ver
            refine g_aldn C d_Mod_push_36 rfl ?_
            refine g_iconst (v := nI 0) C d_Mod_push_37 rfl ?_
            refine g_ldn C d_Mod_push_38 rfl ?_
            refine g_iconst (v := nI 1) C d_Mod_push_39 rfl ?_
            refine g_callV (ci := kMod) C d_Mod_push_40 cw_Mod_92 sl_Mod_add (c_Mod_addEnd X.1 w0 w2 m R2 S.length 0 y (S_ S a).1 (by omega) (wf_up hwf (by omega)) (by omega) hR2 hW2) rfl hR2.2.1 (As := [.int (nI 0), .int y, .int (nI 1)]) rfl rfl rfl (Nat.le_of_ble_eq_true rfl) ⟨rfl, rfl, by decide, by decide⟩ ⟨by decide, by decide⟩ (kV (fun w3 h3 => ?_))
            obtain ⟨R3, hR3, hW3, hF3⟩ := h3
            have hS3 := hS2.fr hF3.ver
            have hw5 := addEnd_wf hwf (by omega) y
            have h5 := hw5.2.1
            refine g_aldn C d_Mod_push_43 rfl ?_
            refine r_f11 C d_Mod_push_44 hR3 ?_
            refine g_iconst (v := nI 0) C d_Mod_push_47 rfl ?_
            refine r_ld10 C d_Mod_push_48 hR3 (by omega) hW3.2.1 ?_
            refine g_iconst (v := nI 4) C d_Mod_push_49 rfl ?_
            refine g_icmp_le C 55 d_Mod_push_50 (by decide) (by first | exact nI_toInt (by omega) | rfl) (by first | exact nI_toInt (by omega) | rfl) (fun b50 => ?_) (fun b50 => ?_)
            · refine g_aldn C d_Mod_push_55 rfl ?_
              refine g_iconst (v := nI 0) C d_Mod_push_56 rfl ?_
              refine g_ldn C d_Mod_push_57 rfl ?_
              refine g_callV (ci := kMod) C d_Mod_push_58 cw_Mod_63 sl_Mod_store (c_Mod_store X.1 w0 w3 m R3 S.length 0 a (addEnd (S_ S a).1 y) (by omega) (by omega) (wf_low hw5 (by omega)) hR3 hW3) rfl hR3.2.1 (As := [.int (nI 0), .int (nI a)]) rfl rfl rfl (Nat.le_of_ble_eq_true rfl) ⟨rfl, rfl, by decide, by decide⟩ ⟨by decide, by decide⟩ (kV (fun w9 h9 => ?_))
              obtain ⟨R9, hR9, hV9, hF9⟩ := h9
              refine g_iconst (v := nI 1) C d_Mod_push_61 rfl ?_
              have hq := hS3.set (R' := R9) (b := true) ha (wf_low hw5 (by omega)) hV9 ((hF9.hi _ _ (by omega)).trans ((hS3.2 a ha).2.trans (by rw [hb]))) (fun i hi hne => ⟨(hS3.2 i hi).1.frV hF9 hne (hS3.wf hi), hF9.hi _ _ (by omega)⟩)
              exact g_iret C Rr d_Mod_push_62 rfl (by decide) (by decide) ⟨_, rfl, by unfold sPush; rw [if_neg hn, vT_N ha31, if_neg (by omega), nI_tn ha31]; rfl, _, by unfold sPush; rw [if_neg hn, vT_N ha31, if_neg (by omega), nI_tn ha31]; show RefW _ _ _ _ (S.set a (addEnd (S_ S a).1 y, true)).length; rw [List.length_set]; exact hR9, by unfold sPush; rw [if_neg hn, vT_N ha31, if_neg (by omega), nI_tn ha31]; exact hq⟩
            · refine g_iconst (v := nI 0) C d_Mod_push_53 rfl ?_
              exact g_iret C Rr d_Mod_push_54 rfl (by decide) (by decide) ⟨_, rfl, mkM.same hR3 hS3 (by unfold sPush; rw [if_neg hn, vT_N ha31, if_pos (by omega)]; rfl)⟩
          · refine g_iconst (v := nI 0) C d_Mod_push_28 rfl ?_
            exact g_iret C Rr d_Mod_push_29 rfl (by decide) (by decide) ⟨_, rfl, mkM.same hR hS (by unfold sPush; rw [if_pos (Or.inr (by rw [vT_N ha31]; omega))]; rfl)⟩
      · have hno : ¬ opn S (nI a) := fun z => by have := z.2; rw [vO_N ha31] at this; exact hb this
        rw [if_neg hb]
        refine g_if_eq C 28 d_Mod_push_14 (by decide) (by first | exact nI_toInt (by omega) | rfl) (fun b14 => ?_) (fun b14 => ?_)
        · refine g_iconst (v := nI 0) C d_Mod_push_28 rfl ?_
          exact g_iret C Rr d_Mod_push_29 rfl (by decide) (by decide) ⟨_, rfl, mkM.same hR hS (by unfold sPush; rw [if_pos (Or.inl hno)]; rfl)⟩
        · exfalso; omega
  · have hno : ¬ opn S v := fun z => hv z.1
    refine g_callV (ci := kMod) C d_Mod_push_2 cw_Mod_55 sl_Mod_there (c_Mod_there X.1 w0 w m R S v hk hR) rfl hR.2.1 (As := [.int (v)]) rfl rfl rfl (Nat.le_of_ble_eq_true rfl) ⟨rfl, rfl, by decide, by decide⟩ ⟨by decide, by decide⟩ (kI (fun r w2 h2 => ?_))
    rw [h2.1, h2.2, if_neg hv]
    refine g_if_eq C 28 d_Mod_push_5 (by decide) (by first | exact nI_toInt (by omega) | rfl) (fun b5 => ?_) (fun b5 => ?_)
    · refine g_iconst (v := nI 0) C d_Mod_push_28 rfl ?_
      exact g_iret C Rr d_Mod_push_29 rfl (by decide) (by decide) ⟨_, rfl, mkM.same hR hS (by unfold sPush; rw [if_pos (Or.inl hno)]; rfl)⟩
    · exfalso; omega
set_option maxRecDepth 100000 in
set_option maxHeartbeats 4000000 in
theorem c_Mod_versions (N : gN) (w0 w : gW) (m : Nat) (R : RA) (S : St)  (hS : RefS R S) (hR : RefW w0 w m R S.length) : CtN N y_Mod_versions b_Mod_versions 1 (some FieldType.int) (rmm 0 0 0 0) [.ref m] w (pI (fun r w' => w' = w ∧ r = nI S.length)) 0 0 := by
  refine ct_intro N [some (.ref m)] (by decide) rfl (Nat.le_of_ble_eq_true rfl) (by simp [Value.category]) ?_
  intro X hX C Rr
  refine g_aldn C d_Mod_versions_0 rfl ?_
  refine r_f6 C d_Mod_versions_1 hR ?_
  exact g_iret C Rr d_Mod_versions_4 rfl (by decide) (by decide) ⟨_, rfl, rfl, rfl⟩
set_option maxRecDepth 100000 in
set_option maxHeartbeats 4000000 in
theorem c_Mod_size (N : gN) (w0 w : gW) (m : Nat) (R : RA) (S : St) (v : Int32) (hS : RefS R S) (hR : RefW w0 w m R S.length) : CtN N y_Mod_size b_Mod_size 2 (some FieldType.int) (rmm 1 21 0 0) [.ref m, .int v] w (pI (fun r w' => w' = w ∧ r = sSize S v)) 0 0 := by
  refine ct_intro N [some (.ref m), some (.int v)] (by decide) rfl (Nat.le_of_ble_eq_true rfl) (by simp [Value.category]) ?_
  intro X hX C Rr
  have hk := hS.1.2.1
  refine g_aldn C d_Mod_size_0 rfl ?_
  refine g_ldn C d_Mod_size_1 rfl ?_
  by_cases hv : vOk S v
  · refine g_callV (ci := kMod) C d_Mod_size_2 cw_Mod_55 sl_Mod_there (c_Mod_there X.1 w0 w m R S v hk hR) rfl hR.2.1 (As := [.int (v)]) rfl rfl rfl (Nat.le_of_ble_eq_true rfl) ⟨rfl, rfl, by decide, by decide⟩ ⟨by decide, by decide⟩ (kI (fun r w2 h2 => ?_))
    rw [h2.1, h2.2, if_pos hv]
    refine g_if_eq C 17 d_Mod_size_5 (by decide) (by first | exact nI_toInt (by omega) | rfl) (fun b5 => ?_) (fun b5 => ?_)
    · exfalso; omega
    · obtain ⟨a, ha, rfl⟩ := vOk_ex hv
      have ha31 : a < 2 ^ 31 := by omega
      have hV := (hS.2 a ha).1
      have hwf := hS.wf ha
      have hl := hwf.1
      have hh := hwf.2.1
      refine g_aldn C d_Mod_size_8 rfl ?_
      refine r_f2 C d_Mod_size_9 hR ?_
      refine g_ldn C d_Mod_size_12 rfl ?_
      refine r_ld2 C d_Mod_size_13 hR (by omega) hV.1 ?_
      refine g_goto C 18 d_Mod_size_14 (by decide) ?_
      exact g_iret C Rr d_Mod_size_18 rfl (by decide) (by decide) ⟨_, rfl, rfl, by unfold sSize; rw [if_pos hv, vT_N ha31]⟩
  · refine g_callV (ci := kMod) C d_Mod_size_2 cw_Mod_55 sl_Mod_there (c_Mod_there X.1 w0 w m R S v hk hR) rfl hR.2.1 (As := [.int (v)]) rfl rfl rfl (Nat.le_of_ble_eq_true rfl) ⟨rfl, rfl, by decide, by decide⟩ ⟨by decide, by decide⟩ (kI (fun r w2 h2 => ?_))
    rw [h2.1, h2.2, if_neg hv]
    refine g_if_eq C 17 d_Mod_size_5 (by decide) (by first | exact nI_toInt (by omega) | rfl) (fun b5 => ?_) (fun b5 => ?_)
    · refine g_iconst (v := -1) C d_Mod_size_17 rfl ?_
      exact g_iret C Rr d_Mod_size_18 rfl (by decide) (by decide) ⟨_, rfl, rfl, by unfold sSize; rw [if_neg hv]⟩
    · exfalso; omega
set_option maxRecDepth 100000 in
set_option maxHeartbeats 4000000 in
theorem c_Mod_height (N : gN) (w0 w : gW) (m : Nat) (R : RA) (S : St) (v : Int32) (hS : RefS R S) (hR : RefW w0 w m R S.length) : CtN N y_Mod_height b_Mod_height 2 (some FieldType.int) (rmm 1 21 0 0) [.ref m, .int v] w (pI (fun r w' => w' = w ∧ r = sHei S v)) 0 0 := by
  refine ct_intro N [some (.ref m), some (.int v)] (by decide) rfl (Nat.le_of_ble_eq_true rfl) (by simp [Value.category]) ?_
  intro X hX C Rr
  have hk := hS.1.2.1
  refine g_aldn C d_Mod_height_0 rfl ?_
  refine g_ldn C d_Mod_height_1 rfl ?_
  by_cases hv : vOk S v
  · refine g_callV (ci := kMod) C d_Mod_height_2 cw_Mod_55 sl_Mod_there (c_Mod_there X.1 w0 w m R S v hk hR) rfl hR.2.1 (As := [.int (v)]) rfl rfl rfl (Nat.le_of_ble_eq_true rfl) ⟨rfl, rfl, by decide, by decide⟩ ⟨by decide, by decide⟩ (kI (fun r w2 h2 => ?_))
    rw [h2.1, h2.2, if_pos hv]
    refine g_if_eq C 17 d_Mod_height_5 (by decide) (by first | exact nI_toInt (by omega) | rfl) (fun b5 => ?_) (fun b5 => ?_)
    · exfalso; omega
    · obtain ⟨a, ha, rfl⟩ := vOk_ex hv
      have ha31 : a < 2 ^ 31 := by omega
      have hV := (hS.2 a ha).1
      have hwf := hS.wf ha
      have hl := hwf.1
      have hh := hwf.2.1
      refine g_aldn C d_Mod_height_8 rfl ?_
      refine r_f3 C d_Mod_height_9 hR ?_
      refine g_ldn C d_Mod_height_12 rfl ?_
      refine r_ld3 C d_Mod_height_13 hR (by omega) hV.2.2.1 ?_
      refine g_goto C 18 d_Mod_height_14 (by decide) ?_
      exact g_iret C Rr d_Mod_height_18 rfl (by decide) (by decide) ⟨_, rfl, rfl, by unfold sHei; rw [if_pos hv, vT_N ha31]⟩
  · refine g_callV (ci := kMod) C d_Mod_height_2 cw_Mod_55 sl_Mod_there (c_Mod_there X.1 w0 w m R S v hk hR) rfl hR.2.1 (As := [.int (v)]) rfl rfl rfl (Nat.le_of_ble_eq_true rfl) ⟨rfl, rfl, by decide, by decide⟩ ⟨by decide, by decide⟩ (kI (fun r w2 h2 => ?_))
    rw [h2.1, h2.2, if_neg hv]
    refine g_if_eq C 17 d_Mod_height_5 (by decide) (by first | exact nI_toInt (by omega) | rfl) (fun b5 => ?_) (fun b5 => ?_)
    · refine g_iconst (v := -1) C d_Mod_height_17 rfl ?_
      exact g_iret C Rr d_Mod_height_18 rfl (by decide) (by decide) ⟨_, rfl, rfl, by unfold sHei; rw [if_neg hv]⟩
    · exfalso; omega
set_option maxRecDepth 100000 in
set_option maxHeartbeats 4000000 in
theorem c_Mod_nodes (N : gN) (w0 w : gW) (m : Nat) (R : RA) (S : St) (v : Int32) (hS : RefS R S) (hR : RefW w0 w m R S.length) : CtN N y_Mod_nodes b_Mod_nodes 4 (some FieldType.int) (rmm 1 21 0 0) [.ref m, .int v] w (pI (fun r w' => w' = w ∧ r = sNod S v)) 0 0 := by
  refine ct_intro N [some (.ref m), some (.int v), none, none] (by decide) rfl (Nat.le_of_ble_eq_true rfl) (by simp [Value.category]) ?_
  intro X hX C Rr
  have hk := hS.1.2.1
  refine g_aldn C d_Mod_nodes_0 rfl ?_
  refine g_ldn C d_Mod_nodes_1 rfl ?_
  by_cases hv : vOk S v
  · refine g_callV (ci := kMod) C d_Mod_nodes_2 cw_Mod_55 sl_Mod_there (c_Mod_there X.1 w0 w m R S v hk hR) rfl hR.2.1 (As := [.int (v)]) rfl rfl rfl (Nat.le_of_ble_eq_true rfl) ⟨rfl, rfl, by decide, by decide⟩ ⟨by decide, by decide⟩ (kI (fun r w2 h2 => ?_))
    rw [h2.1, h2.2, if_pos hv]
    refine g_if_ne C 10 d_Mod_nodes_5 (by decide) (by first | exact nI_toInt (by omega) | rfl) (fun b5 => ?_) (fun b5 => ?_)
    · obtain ⟨a, ha, rfl⟩ := vOk_ex hv
      have ha31 : a < 2 ^ 31 := by omega
      have hV := (hS.2 a ha).1
      have hwf := hS.wf ha
      have hl := hwf.1
      have hh := hwf.2.1
      have r80 := wf_len hwf
      have bd : ∀ l, ndU (trs (S_ S a).1) l ≤ 80 * l := fun l => by
        induction l with
        | zero => exact Nat.le_refl _
        | succ l ih => have := r80 (l + 1); simp only [ndU]; rw [trs_p _ (by omega), List.length_map]; omega
      have loop : ∀ l, l ≤ 4 → V X w 0 0 [some (.ref m), some (.int (nI a)), some (.int (nI (ndU (trs (S_ S a).1) l))), some (.int (nI (l + 1)))] [] 14 := by
        refine upto _ (fun l hl ih => ?_)
        have bl := bd l
        refine g_ldn C d_Mod_nodes_14 rfl ?_
        refine g_iconst (v := nI 4) C d_Mod_nodes_15 rfl ?_
        refine g_icmp_gt C 38 d_Mod_nodes_16 (by decide) (by first | exact nI_toInt (by omega) | rfl) (by first | exact nI_toInt (by omega) | rfl) (fun b16 => ?_) (fun b16 => ?_)
        · have e : l = 4 := by omega
          subst e
          refine g_ldn C d_Mod_nodes_38 rfl ?_
          exact g_iret C Rr d_Mod_nodes_39 rfl (by decide) (by decide) ⟨_, rfl, rfl, by unfold sNod; rw [if_pos hv, vT_N ha31]; congr 1; unfold ndT; simp only [ndU, trs_p _ (show 1 ≤ 0 + 1 by omega), trs_p _ (show 1 ≤ 1 + 1 by omega), trs_p _ (show 1 ≤ 2 + 1 by omega), trs_p _ (show 1 ≤ 3 + 1 by omega), List.length_map, Nat.zero_add, Nat.reduceAdd]⟩
        · have hrow := hV.2.2.2 (l + 1) (by omega) (by omega)
          have rl := r80 (l + 1)
          refine g_ldn C d_Mod_nodes_19 rfl ?_
          refine g_aldn C d_Mod_nodes_20 rfl ?_
          refine r_f4 C d_Mod_nodes_21 hR ?_
          refine g_iconst (v := nI 5) C d_Mod_nodes_24 rfl ?_
          refine g_ldn C d_Mod_nodes_25 rfl ?_
          first | refine g_mulN C d_Mod_nodes_26 ?_ | refine g_mul C d_Mod_nodes_26 ?_
          refine g_ldn C d_Mod_nodes_27 rfl ?_
          first | refine g_addN C d_Mod_nodes_28 ?_ | refine g_add C d_Mod_nodes_28 ?_
          refine r_ld4 C d_Mod_nodes_29 hR (by omega) hrow.1 ?_
          first | refine g_addN C d_Mod_nodes_30 ?_ | refine g_add C d_Mod_nodes_30 ?_
          rw [show ndU (trs (S_ S a).1) l + ((S_ S a).1.2.1 (l + 1)).length = ndU (trs (S_ S a).1) (l + 1) by simp only [ndU]; rw [trs_p _ (by omega), List.length_map]]
          refine g_stn C [_, _, _, _] d_Mod_nodes_31 (Nat.le_of_ble_eq_true rfl) rfl ?_
          refine g_incN C [_, _, _, _] d_Mod_nodes_32 rfl rfl ?_
          refine g_goto C 14 d_Mod_nodes_35 (by decide) ?_
          exact ih (l + 1) (by omega) (by omega)
      refine g_iconst (v := nI 0) C d_Mod_nodes_10 rfl ?_
      refine g_stn C [_, _, _, _] d_Mod_nodes_11 (Nat.le_of_ble_eq_true rfl) rfl ?_
      refine g_iconst (v := nI 1) C d_Mod_nodes_12 rfl ?_
      refine g_stn C [_, _, _, _] d_Mod_nodes_13 (Nat.le_of_ble_eq_true rfl) rfl ?_
      exact loop 0 (by omega)
    · exfalso; omega
  · refine g_callV (ci := kMod) C d_Mod_nodes_2 cw_Mod_55 sl_Mod_there (c_Mod_there X.1 w0 w m R S v hk hR) rfl hR.2.1 (As := [.int (v)]) rfl rfl rfl (Nat.le_of_ble_eq_true rfl) ⟨rfl, rfl, by decide, by decide⟩ ⟨by decide, by decide⟩ (kI (fun r w2 h2 => ?_))
    rw [h2.1, h2.2, if_neg hv]
    refine g_if_ne C 10 d_Mod_nodes_5 (by decide) (by first | exact nI_toInt (by omega) | rfl) (fun b5 => ?_) (fun b5 => ?_)
    · exfalso; omega
    · refine g_iconst (v := -1) C d_Mod_nodes_8 rfl ?_
      exact g_iret C Rr d_Mod_nodes_9 rfl (by decide) (by decide) ⟨_, rfl, rfl, by unfold sNod; rw [if_neg hv]⟩
set_option maxRecDepth 100000 in
set_option maxHeartbeats 4000000 in
theorem c_Mod_hash (N : gN) (w0 w : gW) (m : Nat) (R : RA) (S : St) (v : Int32) (hS : RefS R S) (hR : RefW w0 w m R S.length) : CtN N y_Mod_hash b_Mod_hash 4 (some FieldType.int) (rmm 1 21 0 0) [.ref m, .int v] w (pI (fun r w' => w' = w ∧ r = sHash S v)) 0 0 := by
  refine ct_intro N [some (.ref m), some (.int v), none, none] (by decide) rfl (Nat.le_of_ble_eq_true rfl) (by simp [Value.category]) ?_
  intro X hX C Rr
  have hk := hS.1.2.1
  refine g_aldn C d_Mod_hash_0 rfl ?_
  refine g_ldn C d_Mod_hash_1 rfl ?_
  by_cases hv : vOk S v
  · refine g_callV (ci := kMod) C d_Mod_hash_2 cw_Mod_55 sl_Mod_there (c_Mod_there X.1 w0 w m R S v hk hR) rfl hR.2.1 (As := [.int (v)]) rfl rfl rfl (Nat.le_of_ble_eq_true rfl) ⟨rfl, rfl, by decide, by decide⟩ ⟨by decide, by decide⟩ (kI (fun r w2 h2 => ?_))
    rw [h2.1, h2.2, if_pos hv]
    refine g_if_ne C 10 d_Mod_hash_5 (by decide) (by first | exact nI_toInt (by omega) | rfl) (fun b5 => ?_) (fun b5 => ?_)
    · obtain ⟨a, ha, rfl⟩ := vOk_ex hv
      have ha31 : a < 2 ^ 31 := by omega
      have hV := (hS.2 a ha).1
      have hwf := hS.wf ha
      have hl := hwf.1
      have hh := hwf.2.1
      have loop : ∀ c, c ≤ (S_ S a).1.1.length → V X w 0 0 [some (.ref m), some (.int (nI a)), some (.int (hsh (nI 1) ((S_ S a).1.1.take c))), some (.int (nI (c)))] [] 14 := by
        refine upto _ (fun c hc ih => ?_)
        refine g_ldn C d_Mod_hash_14 rfl ?_
        refine g_aldn C d_Mod_hash_15 rfl ?_
        refine r_f2 C d_Mod_hash_16 hR ?_
        refine g_ldn C d_Mod_hash_19 rfl ?_
        refine r_ld2 C d_Mod_hash_20 hR (by omega) hV.1 ?_
        refine g_icmp_ge C 47 d_Mod_hash_21 (by decide) (by first | exact nI_toInt (by omega) | rfl) (by first | exact nI_toInt (by omega) | rfl) (fun b21 => ?_) (fun b21 => ?_)
        · refine g_ldn C d_Mod_hash_47 rfl ?_
          exact g_iret C Rr d_Mod_hash_48 rfl (by decide) (by decide) ⟨_, rfl, rfl, by unfold sHash; rw [if_pos hv, vT_N ha31, List.take_of_length_le (by omega)]⟩
        · refine g_bipush (v := nI 31) C d_Mod_hash_24 (by decide) ?_
          refine g_ldn C d_Mod_hash_26 rfl ?_
          first | refine g_mulN C d_Mod_hash_27 ?_ | refine g_mul C d_Mod_hash_27 ?_
          refine g_aldn C d_Mod_hash_28 rfl ?_
          refine r_f0 C d_Mod_hash_29 hR ?_
          refine g_bipush (v := nI 80) C d_Mod_hash_32 (by decide) ?_
          refine g_ldn C d_Mod_hash_34 rfl ?_
          first | refine g_mulN C d_Mod_hash_35 ?_ | refine g_mul C d_Mod_hash_35 ?_
          refine g_ldn C d_Mod_hash_36 rfl ?_
          first | refine g_addN C d_Mod_hash_37 ?_ | refine g_add C d_Mod_hash_37 ?_
          refine r_ld0 C d_Mod_hash_38 hR (by omega) (hV.2.1 c (by omega)) ?_
          refine g_add C d_Mod_hash_39 ?_
          rw [← hsh_snoc, ← tk_snoc (by omega)]
          refine g_stn C [_, _, _, _] d_Mod_hash_40 (Nat.le_of_ble_eq_true rfl) rfl ?_
          refine g_incN C [_, _, _, _] d_Mod_hash_41 rfl rfl ?_
          refine g_goto C 14 d_Mod_hash_44 (by decide) ?_
          exact ih (c + 1) (by omega) (by omega)
      refine g_iconst (v := nI 1) C d_Mod_hash_10 rfl ?_
      refine g_stn C [_, _, _, _] d_Mod_hash_11 (Nat.le_of_ble_eq_true rfl) rfl ?_
      refine g_iconst (v := nI 0) C d_Mod_hash_12 rfl ?_
      refine g_stn C [_, _, _, _] d_Mod_hash_13 (Nat.le_of_ble_eq_true rfl) rfl ?_
      exact loop 0 (by omega)
    · exfalso; omega
  · refine g_callV (ci := kMod) C d_Mod_hash_2 cw_Mod_55 sl_Mod_there (c_Mod_there X.1 w0 w m R S v hk hR) rfl hR.2.1 (As := [.int (v)]) rfl rfl rfl (Nat.le_of_ble_eq_true rfl) ⟨rfl, rfl, by decide, by decide⟩ ⟨by decide, by decide⟩ (kI (fun r w2 h2 => ?_))
    rw [h2.1, h2.2, if_neg hv]
    refine g_if_ne C 10 d_Mod_hash_5 (by decide) (by first | exact nI_toInt (by omega) | rfl) (fun b5 => ?_) (fun b5 => ?_)
    · exfalso; omega
    · refine g_iconst (v := nI 0) C d_Mod_hash_8 rfl ?_
      exact g_iret C Rr d_Mod_hash_9 rfl (by decide) (by decide) ⟨_, rfl, rfl, by unfold sHash; rw [if_neg hv]; rfl⟩
set_option maxRecDepth 100000 in
set_option maxHeartbeats 4000000 in
theorem c_Mod_get (N : gN) (w0 w : gW) (m : Nat) (R : RA) (S : St) (v i : Int32) (hS : RefS R S) (hR : RefW w0 w m R S.length) : CtN N y_Mod_get b_Mod_get 3 (some FieldType.long) (rmm 1 21 0 0) [.ref m, .int v, .int i] w (pL (fun r w' => w' = w ∧ r = sGet S v i)) 0 0 := by
  refine ct_intro N [some (.ref m), some (.int v), some (.int i)] (by decide) rfl (Nat.le_of_ble_eq_true rfl) (by simp [Value.category]) ?_
  intro X hX C Rr
  have hk := hS.1.2.1
  refine g_aldn C d_Mod_get_0 rfl ?_
  refine g_ldn C d_Mod_get_1 rfl ?_
  by_cases hv : vOk S v
  · refine g_callV (ci := kMod) C d_Mod_get_2 cw_Mod_55 sl_Mod_there (c_Mod_there X.1 w0 w m R S v hk hR) rfl hR.2.1 (As := [.int (v)]) rfl rfl rfl (Nat.le_of_ble_eq_true rfl) ⟨rfl, rfl, by decide, by decide⟩ ⟨by decide, by decide⟩ (kI (fun r w2 h2 => ?_))
    rw [h2.1, h2.2, if_pos hv]
    refine g_if_eq C 37 d_Mod_get_5 (by decide) (by first | exact nI_toInt (by omega) | rfl) (fun b5 => ?_) (fun b5 => ?_)
    · exfalso; omega
    · obtain ⟨a, ha, rfl⟩ := vOk_ex hv
      have ha31 : a < 2 ^ 31 := by omega
      have hV := (hS.2 a ha).1
      have hwf := hS.wf ha
      have hl := hwf.1
      have hh := hwf.2.1
      refine g_ldn C d_Mod_get_8 rfl ?_
      refine g_if_lt C 37 d_Mod_get_9 (by decide) rfl (fun b9 => ?_) (fun b9 => ?_)
      · refine g_ldc2 C d_Mod_get_37 m_558 ?_
        exact g_lret C Rr d_Mod_get_40 (by decide) (by decide) ⟨_, rfl, rfl, by unfold sGet; rw [if_neg (fun z => by have := z.2.1; omega)]⟩
      · refine g_ldn C d_Mod_get_12 rfl ?_
        refine g_aldn C d_Mod_get_13 rfl ?_
        refine r_f2 C d_Mod_get_14 hR ?_
        refine g_ldn C d_Mod_get_17 rfl ?_
        refine r_ld2 C d_Mod_get_18 hR (by omega) hV.1 ?_
        refine g_icmp_ge C 37 d_Mod_get_19 (by decide) rfl (by first | exact nI_toInt (by omega) | rfl) (fun b19 => ?_) (fun b19 => ?_)
        · refine g_ldc2 C d_Mod_get_37 m_558 ?_
          exact g_lret C Rr d_Mod_get_40 (by decide) (by decide) ⟨_, rfl, rfl, by unfold sGet; rw [if_neg (fun z => by have := z.2.2; rw [vT_N ha31] at this; omega)]⟩
        · have hp : plc S (nI a) i := ⟨by omega, by rw [vT_N ha31]; omega⟩
          obtain ⟨c, hc, rfl⟩ := plc_ex hp
          rw [vT_N ha31] at hc
          refine g_aldn C d_Mod_get_22 rfl ?_
          refine r_f0 C d_Mod_get_23 hR ?_
          refine g_bipush (v := nI 80) C d_Mod_get_26 (by decide) ?_
          refine g_ldn C d_Mod_get_28 rfl ?_
          first | refine g_mulN C d_Mod_get_29 ?_ | refine g_mul C d_Mod_get_29 ?_
          refine g_ldn C d_Mod_get_30 rfl ?_
          first | refine g_addN C d_Mod_get_31 ?_ | refine g_add C d_Mod_get_31 ?_
          refine r_ld0 C d_Mod_get_32 hR (by omega) (hV.2.1 c (by omega)) ?_
          refine g_i2l C d_Mod_get_33 ?_
          refine g_goto C 40 d_Mod_get_34 (by decide) ?_
          exact g_lret C Rr d_Mod_get_40 (by decide) (by decide) ⟨_, rfl, rfl, by unfold sGet; rw [if_pos ⟨hv, hp⟩, vT_N ha31, nI_tn (by omega)]⟩
  · refine g_callV (ci := kMod) C d_Mod_get_2 cw_Mod_55 sl_Mod_there (c_Mod_there X.1 w0 w m R S v hk hR) rfl hR.2.1 (As := [.int (v)]) rfl rfl rfl (Nat.le_of_ble_eq_true rfl) ⟨rfl, rfl, by decide, by decide⟩ ⟨by decide, by decide⟩ (kI (fun r w2 h2 => ?_))
    rw [h2.1, h2.2, if_neg hv]
    refine g_if_eq C 37 d_Mod_get_5 (by decide) (by first | exact nI_toInt (by omega) | rfl) (fun b5 => ?_) (fun b5 => ?_)
    · refine g_ldc2 C d_Mod_get_37 m_558 ?_
      exact g_lret C Rr d_Mod_get_40 (by decide) (by decide) ⟨_, rfl, rfl, by unfold sGet; rw [if_neg (fun z => hv z.1)]⟩
    · exfalso; omega
