/-! TREE: cutting and joining. -/
theorem cut_bd {M : Nat} {T : Tr} (hw : wfT M T) {f e : Nat} (hf : f ≤ 80) (he : e ≤ 80) : ∀ k, cutF T.2.1 f k ≤ 80 ∧ cutE T.2.1 f e k ≤ 160
  | 0 => ⟨hf, by show e ≤ 160; omega⟩
  | k + 1 => by
    have h1 := cutF_le hw hf (k + 1)
    refine ⟨h1, ?_⟩
    have h2 : (clip (T.2.1 (k + 1)) (cutF T.2.1 f k) (cutE T.2.1 f e k)).length ≤ 80 := by
      unfold clip
      exact Nat.le_trans (pos_len _) (by rw [ovs_len]; exact wf_len hw (k + 1))
    show cutF T.2.1 f (k + 1) + _ ≤ 160
    omega
theorem cut_none (r : Nat → List Nat) (f : Nat) : ∀ k, cutF r f k = cutE r f f k ∧ cutR r f f k = []
  | 0 => ⟨rfl, rfl⟩
  | k + 1 => by
    have h := (cut_none r f k).1
    have e : clip (r (k + 1)) (cutF r f k) (cutE r f f k) = [] := by rw [← h]; exact clip_same _ _
    exact ⟨by show hold _ _ = hold _ _ + _; rw [e]; rfl, e⟩
theorem cut_above {M : Nat} {T : Tr} (hw : wfT M T) (f e : Nat) {k : Nat} (hk : T.2.2 < k) : cutR T.2.1 f e k = [] := by
  obtain ⟨j, rfl⟩ : ∃ j, k = j + 1 := ⟨k - 1, by omega⟩
  show clip _ _ _ = []
  rw [hw.2.2.2.1 _ (Or.inr hk)]
  rfl
def cutS (T : Tr) (f e : Nat) (rs : Nat → List Int32) (i : Nat) : Nat → List Int32 := fun k => if k = 0 then (T.1.drop f).take (e - f) else if k < i then (cutR T.2.1 f e k).map nI else rs k
def lowS (T : Tr) (f e : Nat) (g : Nat) : Nat → List Int32 := fun k => if k = 0 then (T.1.drop f).take (e - f) else if k ≤ g then (cutR T.2.1 f e k).map nI else []
set_option maxRecDepth 100000 in
set_option maxHeartbeats 4000000 in
theorem c_Tree_cut (N : gN) (w : gW) (t u : Nat) (rs : Nat → List Int32) (h0 : Nat) (T : Tr) (f e : Nat) (hd : t + 16 ≤ u ∨ u + 16 ≤ t) (hfe : f ≤ e) (he : e ≤ T.1.length) (hw : wfT 4 T) (hT : TreeV w t rs h0) (hU : TreeV w u (trs T) T.2.2) : CtN N y_Tree_cut b_Tree_cut 8 none (rmm 2 48 0 0) [.ref t, .ref u, .int (nI f), .int (nI e)] w (pV (fun w' => Sm w w' t (t + 16) ∧ TreeV w' t (trs (cutT T f e)) (cutT T f e).2.2)) 0 0 := by
  refine ct_intro N [some (.ref t), some (.ref u), some (.int (nI f)), some (.int (nI e)), none, none, none, none] (by decide) rfl (Nat.le_of_ble_eq_true rfl) (by simp [Value.category]) ?_
  intro X hX C Rr
  have h80 := hw.1
  have h4 := hw.2.1
  have hEl : ((T.1.drop f).take (e - f)).length = e - f := by simp; omega
  have low : ∀ g, g ≤ 6 → ∀ w1, Sm w w1 t (t + 16) → TreeV w1 t (lowS T f e g) g → lowH (cutR T.2.1 f e) g = cutH T f e → V X w1 0 0 [some (.ref t), some (.ref u), some (.int (nI f)), some (.int (nI e)), none, none, none, none] [] 134 := by
    intro g
    induction g with
    | zero =>
      intro _ w1 hS hT1 hg
      refine g_aldn C d_Tree_cut_134 rfl ?_
      refine t_hei C d_Tree_cut_135 fl_Tree_18 (by assumption) ?_
      refine g_iconst (v := nI 1) C d_Tree_cut_138 rfl ?_
      refine g_icmp_le C 184 d_Tree_cut_139 (by decide) (by first | exact nI_toInt (by omega) | rfl) (by first | exact nI_toInt (by omega) | rfl) (fun b139 => ?_) (fun b139 => ?_)
      · have hg' : 0 = cutH T f e := hg
        refine g_vret C Rr d_Tree_cut_184 (by decide) (by decide) ⟨rfl, hS, hT1.congr (fun k hk => ?_) hg'.symm⟩
        unfold trs cutT lowS
        rw [← hg']
        by_cases c : k = 0
        · rw [if_pos c, if_pos c]
        · rw [if_neg c, if_neg c]
          simp only
          split <;> rfl
      · exfalso; omega
    | succ g ih =>
      intro hg6 w1 hS hT1 hg
      refine g_aldn C d_Tree_cut_134 rfl ?_
      refine t_hei C d_Tree_cut_135 fl_Tree_18 (by assumption) ?_
      refine g_iconst (v := nI 1) C d_Tree_cut_138 rfl ?_
      refine g_icmp_le C 184 d_Tree_cut_139 (by decide) (by first | exact nI_toInt (by omega) | rfl) (by first | exact nI_toInt (by omega) | rfl) (fun b139 => ?_) (fun b139 => ?_)
      · have e0 : g = 0 := by omega
        subst e0
        have hg' : 0 + 1 = cutH T f e := hg
        refine g_vret C Rr d_Tree_cut_184 (by decide) (by decide) ⟨rfl, hS, hT1.congr (fun k hk => ?_) hg'.symm⟩
        unfold trs cutT lowS
        rw [← hg']
        by_cases c : k = 0
        · rw [if_pos c, if_pos c]
        · rw [if_neg c, if_neg c]
          simp only
          split <;> rfl
      · obtain ⟨g, rfl⟩ : ∃ j, g = j + 1 := ⟨g - 1, by omega⟩
        have hr := hT1.2.2 (g + 1 + 1) (by omega)
        have e1 : lowS T f e (g + 1 + 1) (g + 1 + 1) = (cutR T.2.1 f e (g + 1 + 1)).map nI := by unfold lowS; rw [if_neg (by omega), if_pos (Nat.le_refl _)]
        rw [e1] at hr
        have hcell : cellR ((cutR T.2.1 f e (g + 1 + 1)).map nI) (nI 0) = nI (gd 0 (cutR T.2.1 f e (g + 1 + 1)) 0) := by rw [cellR_N (by omega), gdm]
        have hlow : lowH (cutR T.2.1 f e) (g + 1 + 1) = if gd 0 (cutR T.2.1 f e (g + 1 + 1)) 0 = 1 then lowH (cutR T.2.1 f e) (g + 1) else g + 1 + 1 := rfl
        have hgd4 : gd 0 (cutR T.2.1 f e (g + 1 + 1)) 0 ≤ 4 := by
          by_cases c : 0 < (cutR T.2.1 f e (g + 1 + 1)).length
          · exact (clip_mem (fun y hy => (wf_okR hw (g + 1 + 1) y hy).2) (gd_mem (z := 0) c)).2
          · rw [gd_ge (by omega)]; omega
        refine g_aldn C d_Tree_cut_142 rfl ?_
        refine t_rows C d_Tree_cut_143 fl_Tree_11 (by assumption) ?_
        refine g_aldn C d_Tree_cut_146 rfl ?_
        refine t_hei C d_Tree_cut_147 fl_Tree_18 (by assumption) ?_
        refine t_aald C d_Tree_cut_150 (by assumption) (by omega) ?_
        refine g_iconst (v := nI 0) C d_Tree_cut_151 rfl ?_
        refine g_callV (ci := kRow) C d_Tree_cut_152 cw_Tree_25 sl_Row_cell (c_Row_cell X.1 w1 (t + 2 + 2 * (g + 1 + 1)) _ (nI 0) hr) rfl hr.cell (As := [.int (nI 0)]) rfl rfl rfl (Nat.le_of_ble_eq_true rfl) ⟨rfl, rfl, by decide, by decide⟩ ⟨by decide, by decide⟩ (kI (fun r w2 h2 => ?_))
        obtain ⟨rfl, rfl⟩ := h2
        rw [hcell]
        refine g_iconst (v := nI 1) C d_Tree_cut_155 rfl ?_
        refine g_icmp_ne C 184 d_Tree_cut_156 (by decide) (by first | exact nI_toInt (by omega) | rfl) (by first | exact nI_toInt (by omega) | rfl) (fun b156 => ?_) (fun b156 => ?_)
        · have hg' : g + 1 + 1 = cutH T f e := by rw [← hg, hlow, if_neg (by omega)]
          refine g_vret C Rr d_Tree_cut_184 (by decide) (by decide) ⟨rfl, hS, hT1.congr (fun k hk => ?_) hg'.symm⟩
          unfold trs cutT lowS
          rw [← hg']
          by_cases c : k = 0
          · rw [if_pos c, if_pos c]
          · rw [if_neg c, if_neg c]
            simp only
            split <;> rfl
        · refine g_aldn C d_Tree_cut_159 rfl ?_
          refine t_rows C d_Tree_cut_160 fl_Tree_11 (by assumption) ?_
          refine g_aldn C d_Tree_cut_163 rfl ?_
          refine t_hei C d_Tree_cut_164 fl_Tree_18 (by assumption) ?_
          refine t_aald C d_Tree_cut_167 (by assumption) (by omega) ?_
          refine g_callV (ci := kRow) C d_Tree_cut_168 cw_Tree_33 sl_Row_clear (c_Row_clear X.1 w2 (t + 2 + 2 * (g + 1 + 1)) _ hr) rfl hr.cell (As := []) rfl rfl rfl (Nat.le_of_ble_eq_true rfl) ⟨rfl, rfl, by decide, by decide⟩ ⟨by decide, by decide⟩ (kV (fun w3 h3 => ?_))
          have hT3 := hT1.up (by omega) h3.1 h3.2
          have hT4 := hT3.hei (h' := g + 1)
          refine g_aldn C d_Tree_cut_171 rfl ?_
          refine g_dup C d_Tree_cut_172 rfl ?_
          refine t_hei C d_Tree_cut_173 fl_Tree_18 (by assumption) ?_
          refine g_iconst (v := nI 1) C d_Tree_cut_176 rfl ?_
          refine g_subN C d_Tree_cut_177 (by omega) ?_
          rw [Nat.add_sub_cancel]
          refine g_put C d_Tree_cut_178 fl_Tree_18 ft_Tree (ty := .int) ⟨_, _, _, rfl, rfl, by decide +kernel⟩ hT3.1 rfl rfl (Nat.le_of_ble_eq_true rfl) rfl ?_
          refine g_goto C 134 d_Tree_cut_181 (by decide) ?_
          refine ih (by omega) _ ((hS.trans (Sm.tree (k := g + 1 + 1) (by omega) h3.1)).trans (Sm.set (by omega) (by omega))) (hT4.congr (fun k hk => ?_) rfl) (by rw [← hg, hlow, if_pos (by omega)])
          by_cases c : k = g + 1 + 1
          · subst c; rw [va_up_self]; unfold lowS; rw [if_neg (by omega), if_neg (by omega)]
          · rw [va_up_ne _ _ c]; unfold lowS
            by_cases c0 : k = 0
            · rw [if_pos c0, if_pos c0]
            · rw [if_neg c0, if_neg c0]
              by_cases c1 : k ≤ g + 1
              · rw [if_pos c1, if_pos (by omega)]
              · rw [if_neg c1, if_neg (by omega)]
  have loop : ∀ i, i ≤ 6 → ∀ w1, Sm w w1 t (t + 16) → TreeV w1 t (cutS T f e rs (i + 1)) h0 → V X w1 0 0 [some (.ref t), some (.ref u), some (.int (nI f)), some (.int (nI e)), some (.int (nI (cutF T.2.1 f i))), some (.int (nI (cutE T.2.1 f e i))), some (.int (nI (i + 1))), none] [] 35 := by
    refine upto _ (fun i hi ih w1 hS hT1 => ?_)
    have hU1 := hU.sm hS (by omega)
    have hbd := cut_bd hw (show f ≤ 80 by omega) (show e ≤ 80 by omega) i
    have hbd1 := cut_bd hw (show f ≤ 80 by omega) (show e ≤ 80 by omega) (i + 1)
    refine g_ld C d_Tree_cut_35 rfl ?_
    refine g_aldn C d_Tree_cut_37 rfl ?_
    refine t_rows C d_Tree_cut_38 fl_Tree_11 (by assumption) ?_
    refine t_alen C d_Tree_cut_41 hT1 ?_
    refine g_icmp_ge C 110 d_Tree_cut_42 (by decide) (by first | exact nI_toInt (by omega) | rfl) (by first | exact nI_toInt (by omega) | rfl) (fun b42 => ?_) (fun b42 => ?_)
    · have e7 : i = 6 := by omega
      subst e7
      have e0 : cutS T f e rs (6 + 1) 0 = (T.1.drop f).take (e - f) := by unfold cutS; rw [if_pos rfl]
      have fin : ∀ hh, hh = (if e - f = 0 then 0 else T.2.2) → V X w1 0 0 [some (.ref t), some (.ref u), some (.int (nI f)), some (.int (nI e)), none, none, none, none] [.int (nI hh), .ref t] 131 := by
        intro hh hhe
        have hT2 := hT1.hei (h' := hh)
        refine g_put C d_Tree_cut_131 fl_Tree_18 ft_Tree (ty := .int) ⟨_, _, _, rfl, rfl, by decide +kernel⟩ hT1.1 rfl rfl (Nat.le_of_ble_eq_true rfl) rfl ?_
        refine low hh (by rw [hhe]; split <;> omega) _ (hS.trans (Sm.set (by omega) (by omega))) (hT2.congr (fun k hk => ?_) rfl) ?_
        · unfold lowS cutS
          by_cases c0 : k = 0
          · rw [if_pos c0, if_pos c0]
          · rw [if_neg c0, if_neg c0, if_pos (show k < 6 + 1 by omega)]
            by_cases c1 : k ≤ hh
            · rw [if_pos c1]
            · rw [if_neg c1]
              by_cases c2 : e - f = 0
              · have e2 : e = f := by omega
                subst e2
                rw [(cut_none T.2.1 e k).2]; rfl
              · rw [hhe, if_neg c2] at c1
                rw [cut_above hw f e (by omega)]; rfl
        · unfold cutH
          rw [hhe]
          split
          · rfl
          · rfl
      refine g_aldn C d_Tree_cut_110 rfl ?_
      refine g_aldn C d_Tree_cut_111 rfl ?_
      refine t_rows C d_Tree_cut_112 fl_Tree_11 (by assumption) ?_
      refine g_iconst (v := nI 0) C d_Tree_cut_115 rfl ?_
      refine t_aald C d_Tree_cut_116 (by assumption) (by omega) ?_
      refine t_cnt C d_Tree_cut_117 fn_Tree_22 hT1 (by omega) ?_
      rw [e0, hEl]
      refine g_if_ne C 127 d_Tree_cut_120 (by decide) (by first | exact nI_toInt (by omega) | rfl) (fun b120 => ?_) (fun b120 => ?_)
      · refine g_aldn C d_Tree_cut_127 rfl ?_
        refine t_hei C d_Tree_cut_128 fl_Tree_18 (by assumption) ?_
        refine V.le (lvle.keep (lvle.keep (lvle.keep (lvle.keep (lvle.drop (lvle.drop (lvle.drop (lvle.drop lvle.nil)))))))) ?_
        exact fin T.2.2 (by rw [if_neg (by omega)])
      · refine g_iconst (v := nI 0) C d_Tree_cut_123 rfl ?_
        refine g_goto C 131 d_Tree_cut_124 (by decide) ?_
        refine V.le (lvle.keep (lvle.keep (lvle.keep (lvle.keep (lvle.drop (lvle.drop (lvle.drop (lvle.drop lvle.nil)))))))) ?_
        exact fin 0 (by rw [if_pos (by omega)])
    · have hu := hU1.2.2 (i + 1) (by omega)
      rw [trs_p T (by omega)] at hu
      have hrt := hT1.2.2 (i + 1) (by omega)
      refine g_aldn C d_Tree_cut_45 rfl ?_
      refine t_rows C d_Tree_cut_46 fl_Tree_11 (by assumption) ?_
      refine g_ld C d_Tree_cut_49 rfl ?_
      refine t_aald C d_Tree_cut_51 (by assumption) (by omega) ?_
      refine g_ast C [_, _, _, _, _, _, _, _] d_Tree_cut_52 (Nat.le_of_ble_eq_true rfl) rfl ?_
      refine g_aldn C d_Tree_cut_54 rfl ?_
      refine t_rows C d_Tree_cut_55 fl_Tree_11 (by assumption) ?_
      refine g_ld C d_Tree_cut_58 rfl ?_
      refine t_aald C d_Tree_cut_60 (by assumption) (by omega) ?_
      refine g_callV (ci := kRow) C d_Tree_cut_61 cw_Tree_33 sl_Row_clear (c_Row_clear X.1 w1 (t + 2 + 2 * (i + 1)) _ hrt) rfl hrt.cell (As := []) rfl rfl rfl (Nat.le_of_ble_eq_true rfl) ⟨rfl, rfl, by decide, by decide⟩ ⟨by decide, by decide⟩ (kV (fun w2 h2 => ?_))
      have hT2 := hT1.up (by omega) h2.1 h2.2
      have S2 := Sm.tree (k := i + 1) (by omega) h2.1
      have hu2 := hu.sm S2 (by omega)
      refine g_aldn C d_Tree_cut_64 rfl ?_
      refine t_rows C d_Tree_cut_65 fl_Tree_11 (by assumption) ?_
      refine g_ld C d_Tree_cut_68 rfl ?_
      refine t_aald C d_Tree_cut_70 (by assumption) (by omega) ?_
      refine g_ald C d_Tree_cut_71 rfl ?_
      refine g_ld C d_Tree_cut_73 rfl ?_
      refine g_ld C d_Tree_cut_75 rfl ?_
      refine g_callV (ci := kRow) C d_Tree_cut_77 cw_Tree_50 sl_Row_addClipped (c_Row_addClipped X.1 w2 (t + 2 + 2 * (i + 1)) (u + 2 + 2 * (i + 1)) (T.2.1 (i + 1)) (wf_okR hw (i + 1)) (cutF T.2.1 f i) (cutE T.2.1 f e i) (by omega) (by omega) (by omega) h2.2 hu2) rfl h2.2.cell (As := [.ref (u + 2 + 2 * (i + 1)), .int (nI (cutF T.2.1 f i)), .int (nI (cutE T.2.1 f e i))]) rfl rfl rfl (Nat.le_of_ble_eq_true rfl) ⟨rfl, rfl, by decide, by decide⟩ ⟨by decide, by decide⟩ (kV (fun w3 h3 => ?_))
      have hT3 := hT2.up (by omega) h3.1 h3.2
      have S3 := Sm.tree (k := i + 1) (by omega) h3.1
      have hu3 := hu2.sm S3 (by omega)
      refine g_ald C d_Tree_cut_80 rfl ?_
      refine g_ld C d_Tree_cut_82 rfl ?_
      refine g_callV (ci := kRow) C d_Tree_cut_84 cw_Tree_53 sl_Row_holderOf (c_Row_holderOf X.1 w3 (u + 2 + 2 * (i + 1)) (cutF T.2.1 f i) (by omega) (T.2.1 (i + 1)) (wf_okR hw (i + 1)) hu3) rfl hu3.cell (As := [.int (nI (cutF T.2.1 f i))]) rfl rfl rfl (Nat.le_of_ble_eq_true rfl) ⟨rfl, rfl, by decide, by decide⟩ ⟨by decide, by decide⟩ (kI (fun r w4 h4 => ?_))
      obtain ⟨rfl, rfl⟩ := h4
      have e5 : (va_up (va_up (cutS T f e rs (i + 1)) (i + 1) []) (i + 1) ((clip (T.2.1 (i + 1)) (cutF T.2.1 f i) (cutE T.2.1 f e i)).map nI) (i + 1)).length = (clip (T.2.1 (i + 1)) (cutF T.2.1 f i) (cutE T.2.1 f e i)).length := by rw [va_up_self, List.length_map]
      refine g_st C [_, _, _, _, _, _, _, _] d_Tree_cut_87 (Nat.le_of_ble_eq_true rfl) rfl ?_
      refine g_ld C d_Tree_cut_89 rfl ?_
      refine g_aldn C d_Tree_cut_91 rfl ?_
      refine t_rows C d_Tree_cut_92 fl_Tree_11 (by assumption) ?_
      refine g_ld C d_Tree_cut_95 rfl ?_
      refine t_aald C d_Tree_cut_97 (by assumption) (by omega) ?_
      refine t_cnt C d_Tree_cut_98 fn_Tree_22 hT3 (by omega) ?_
      rw [e5]
      first | refine g_addN C d_Tree_cut_101 ?_ | refine g_add C d_Tree_cut_101 ?_
      refine g_st C [_, _, _, _, _, _, _, _] d_Tree_cut_102 (Nat.le_of_ble_eq_true rfl) rfl ?_
      refine g_incN C [_, _, _, _, _, _, _, _] d_Tree_cut_104 rfl rfl ?_
      refine g_goto C 35 d_Tree_cut_107 (by decide) ?_
      refine V.le (lvle.keep (lvle.keep (lvle.keep (lvle.keep (lvle.keep (lvle.keep (lvle.keep (lvle.drop lvle.nil)))))))) ?_
      refine ih (i + 1) (by omega) (by omega) w4 ((hS.trans S2).trans S3) (hT3.congr (fun k hk => ?_) rfl)
      by_cases c : k = i + 1
      · subst c; rw [va_up_self]; unfold cutS; rw [if_neg (by omega), if_pos (by omega)]; rfl
      · rw [va_up_ne _ _ c, va_up_ne _ _ c]; unfold cutS
        by_cases c0 : k = 0
        · rw [if_pos c0, if_pos c0]
        · rw [if_neg c0, if_neg c0]
          by_cases c1 : k < i + 1
          · rw [if_pos c1, if_pos (by omega)]
          · rw [if_neg c1, if_neg (by omega)]
  refine g_aldn C d_Tree_cut_0 rfl ?_
  refine t_rows C d_Tree_cut_1 fl_Tree_11 (by assumption) ?_
  refine g_iconst (v := nI 0) C d_Tree_cut_4 rfl ?_
  refine t_aald C d_Tree_cut_5 (by assumption) (by omega) ?_
  refine g_callV (ci := kRow) C d_Tree_cut_6 cw_Tree_33 sl_Row_clear (c_Row_clear X.1 w (t + 2 + 2 * 0) _ (hT.2.2 0 (by omega))) rfl (hT.2.2 0 (by omega)).cell (As := []) rfl rfl rfl (Nat.le_of_ble_eq_true rfl) ⟨rfl, rfl, by decide, by decide⟩ ⟨by decide, by decide⟩ (kV (fun w2 h2 => ?_))
  have hT2 := hT.up (by omega) h2.1 h2.2
  have S2 := Sm.tree (k := 0) (by omega) h2.1
  have hU2 := hU.sm S2 (by omega)
  refine g_aldn C d_Tree_cut_9 rfl ?_
  refine t_rows C d_Tree_cut_10 fl_Tree_11 (by assumption) ?_
  refine g_iconst (v := nI 0) C d_Tree_cut_13 rfl ?_
  refine t_aald C d_Tree_cut_14 (by assumption) (by omega) ?_
  refine g_aldn C d_Tree_cut_15 rfl ?_
  refine t_rows C d_Tree_cut_16 fl_Tree_11 (by assumption) ?_
  refine g_iconst (v := nI 0) C d_Tree_cut_19 rfl ?_
  refine t_aald C d_Tree_cut_20 (by assumption) (by omega) ?_
  refine g_ldn C d_Tree_cut_21 rfl ?_
  refine g_ldn C d_Tree_cut_22 rfl ?_
  refine g_callV (ci := kRow) C d_Tree_cut_23 cw_Tree_36 sl_Row_addRange (c_Row_addRange X.1 w2 (t + 2 + 2 * 0) (u + 2 + 2 * 0) [] T.1 f e (by omega) (by omega) (by omega) (by simp; omega) h2.2 (hU2.2.2 0 (by omega))) rfl h2.2.cell (As := [.ref (u + 2 + 2 * 0), .int (nI f), .int (nI e)]) rfl rfl rfl (Nat.le_of_ble_eq_true rfl) ⟨rfl, rfl, by decide, by decide⟩ ⟨by decide, by decide⟩ (kV (fun w3 h3 => ?_))
  have hT3 := hT2.up (by omega) h3.1 h3.2
  have S3 := Sm.tree (k := 0) (by omega) h3.1
  refine g_ldn C d_Tree_cut_26 rfl ?_
  refine g_st C [_, _, _, _, _, _, _, _] d_Tree_cut_27 (Nat.le_of_ble_eq_true rfl) rfl ?_
  refine g_ldn C d_Tree_cut_29 rfl ?_
  refine g_st C [_, _, _, _, _, _, _, _] d_Tree_cut_30 (Nat.le_of_ble_eq_true rfl) rfl ?_
  refine g_iconst (v := nI 1) C d_Tree_cut_32 rfl ?_
  refine g_st C [_, _, _, _, _, _, _, _] d_Tree_cut_33 (Nat.le_of_ble_eq_true rfl) rfl ?_
  refine loop 0 (by omega) w3 (S2.trans S3) (hT3.congr (fun k hk => ?_) rfl)
  unfold cutS
  by_cases c0 : k = 0
  · subst c0; rw [if_pos rfl, va_up_self]; rfl
  · rw [if_neg c0, if_neg (by omega), va_up_ne _ _ c0, va_up_ne _ _ c0]
