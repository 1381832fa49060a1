/-! THE REFERENCE: compare, row, probes, its constructor. -/
set_option maxRecDepth 100000 in
set_option maxHeartbeats 4000000 in
theorem c_Mod_compare (N : gN) (w0 w : gW) (m : Nat) (R : RA) (S : St) (v u : Int32) (hS : RefS R S) (hR : RefW w0 w m R S.length) : CtN N y_Mod_compare b_Mod_compare 8 (some FieldType.int) (rmm 1 21 0 0) [.ref m, .int v, .int u] w (pI (fun r w' => w' = w ∧ r = sCmp S v u)) 0 0 := by
  refine ct_intro N [some (.ref m), some (.int v), some (.int u), none, none, none, none, none] (by decide) rfl (Nat.le_of_ble_eq_true rfl) (by simp [Value.category]) ?_
  intro X hX C Rr
  have hk := hS.1.2.1
  refine g_aldn C d_Mod_compare_0 rfl ?_
  refine g_ldn C d_Mod_compare_1 rfl ?_
  by_cases hv : vOk S v
  · refine g_callV (ci := kMod) C d_Mod_compare_2 cw_Mod_55 sl_Mod_there (c_Mod_there X.1 w0 w m R S v hk hR) rfl hR.2.1 (As := [.int (v)]) rfl rfl rfl (Nat.le_of_ble_eq_true rfl) ⟨rfl, rfl, by decide, by decide⟩ ⟨by decide, by decide⟩ (kI (fun r w2 h2 => ?_))
    rw [h2.1, h2.2, if_pos hv]
    refine g_if_eq C 16 d_Mod_compare_5 (by decide) (by first | exact nI_toInt (by omega) | rfl) (fun b5 => ?_) (fun b5 => ?_)
    · exfalso; omega
    · refine g_aldn C d_Mod_compare_8 rfl ?_
      refine g_ldn C d_Mod_compare_9 rfl ?_
      by_cases hu : vOk S u
      · refine g_callV (ci := kMod) C d_Mod_compare_10 cw_Mod_55 sl_Mod_there (c_Mod_there X.1 w0 w m R S u hk hR) rfl hR.2.1 (As := [.int (u)]) rfl rfl rfl (Nat.le_of_ble_eq_true rfl) ⟨rfl, rfl, by decide, by decide⟩ ⟨by decide, by decide⟩ (kI (fun r w2 h2 => ?_))
        rw [h2.1, h2.2, if_pos hu]
        refine g_if_ne C 18 d_Mod_compare_13 (by decide) (by first | exact nI_toInt (by omega) | rfl) (fun b13 => ?_) (fun b13 => ?_)
        · obtain ⟨a, ha, rfl⟩ := vOk_ex hv
          have ha31 : a < 2 ^ 31 := by omega
          have hV := (hS.2 a ha).1
          have hwf := hS.wf ha
          have hl := hwf.1
          have hh := hwf.2.1
          obtain ⟨c, hc, rfl⟩ := vOk_ex hu
          have hc31 : c < 2 ^ 31 := by omega
          have hU := (hS.2 c hc).1
          have ul := (hS.wf hc).1
          have eq : sCmp S (nI a) (nI c) = cmpL (S_ S a).1.1 (S_ S c).1.1 := by unfold sCmp; rw [if_pos ⟨hv, hu⟩, vT_N ha31, vT_N hc31]
          have loop : ∀ b, b ≤ 80 → b ≤ (S_ S a).1.1.length → b ≤ (S_ S c).1.1.length → cmpL (S_ S a).1.1 (S_ S c).1.1 = cmpL ((S_ S a).1.1.drop b) ((S_ S c).1.1.drop b) → V X w 0 0 [some (.ref m), some (.int (nI a)), some (.int (nI c)), some (.int (nI (b))), none, none, none, none] [] 20 := by
            refine upto _ (fun b hb80 ih hbA hbB he => ?_)
            refine g_ldn C d_Mod_compare_20 rfl ?_
            refine g_bipush (v := nI 80) C d_Mod_compare_21 (by decide) ?_
            refine g_icmp_ge C 142 d_Mod_compare_23 (by decide) (by first | exact nI_toInt (by omega) | rfl) (by first | exact nI_toInt (by omega) | rfl) (fun b23 => ?_) (fun b23 => ?_)
            · refine g_iconst (v := nI 0) C d_Mod_compare_142 rfl ?_
              exact g_iret C Rr d_Mod_compare_143 rfl (by decide) (by decide) ⟨_, rfl, rfl, by rw [eq, he, List.drop_of_length_le (by omega), List.drop_of_length_le (by omega)]; rfl⟩
            · by_cases zA : b < (S_ S a).1.1.length
              · by_cases zB : b < (S_ S c).1.1.length
                · have cs := cmp_step (A := (S_ S a).1.1) (B := (S_ S c).1.1) (i := b) zA zB
                  refine g_ldn C d_Mod_compare_26 rfl ?_
                  refine g_aldn C d_Mod_compare_27 rfl ?_
                  refine r_f2 C d_Mod_compare_28 hR ?_
                  refine g_ldn C d_Mod_compare_31 rfl ?_
                  refine r_ld2 C d_Mod_compare_32 hR (by omega) hV.1 ?_
                  refine g_icmp_ge C 40 d_Mod_compare_33 (by decide) (by first | exact nI_toInt (by omega) | rfl) (by first | exact nI_toInt (by omega) | rfl) (fun b33 => by exfalso; omega) (fun b33 => ?_)
                  refine g_iconst (v := nI 1) C d_Mod_compare_36 rfl ?_
                  refine g_goto C 41 d_Mod_compare_37 (by decide) ?_
                  refine g_st C [_, _, _, _, _, _, _, _] d_Mod_compare_41 (Nat.le_of_ble_eq_true rfl) rfl ?_
                  refine g_ldn C d_Mod_compare_43 rfl ?_
                  refine g_aldn C d_Mod_compare_44 rfl ?_
                  refine r_f2 C d_Mod_compare_45 hR ?_
                  refine g_ldn C d_Mod_compare_48 rfl ?_
                  refine r_ld2 C d_Mod_compare_49 hR (by omega) hU.1 ?_
                  refine g_icmp_ge C 57 d_Mod_compare_50 (by decide) (by first | exact nI_toInt (by omega) | rfl) (by first | exact nI_toInt (by omega) | rfl) (fun b50 => by exfalso; omega) (fun b50 => ?_)
                  refine g_iconst (v := nI 1) C d_Mod_compare_53 rfl ?_
                  refine g_goto C 58 d_Mod_compare_54 (by decide) ?_
                  refine g_st C [_, _, _, _, _, _, _, _] d_Mod_compare_58 (Nat.le_of_ble_eq_true rfl) rfl ?_
                  refine g_ld C d_Mod_compare_60 rfl ?_
                  refine g_if_eq C 70 d_Mod_compare_62 (by decide) (by first | exact nI_toInt (by omega) | rfl) (fun b62 => by exfalso; omega) (fun b62 => ?_)
                  refine g_ld C d_Mod_compare_65 rfl ?_
                  refine g_if_ne C 90 d_Mod_compare_67 (by decide) (by first | exact nI_toInt (by omega) | rfl) (fun b67 => ?_) (fun b67 => by exfalso; omega)
                  refine g_aldn C d_Mod_compare_90 rfl ?_
                  refine r_f0 C d_Mod_compare_91 hR ?_
                  refine g_bipush (v := nI 80) C d_Mod_compare_94 (by decide) ?_
                  refine g_ldn C d_Mod_compare_96 rfl ?_
                  first | refine g_mulN C d_Mod_compare_97 ?_ | refine g_mul C d_Mod_compare_97 ?_
                  refine g_ldn C d_Mod_compare_98 rfl ?_
                  first | refine g_addN C d_Mod_compare_99 ?_ | refine g_add C d_Mod_compare_99 ?_
                  refine r_ld0 C d_Mod_compare_100 hR (by omega) (hV.2.1 b (by omega)) ?_
                  refine g_st C [_, _, _, _, _, _, _, _] d_Mod_compare_101 (Nat.le_of_ble_eq_true rfl) rfl ?_
                  refine g_aldn C d_Mod_compare_103 rfl ?_
                  refine r_f0 C d_Mod_compare_104 hR ?_
                  refine g_bipush (v := nI 80) C d_Mod_compare_107 (by decide) ?_
                  refine g_ldn C d_Mod_compare_109 rfl ?_
                  first | refine g_mulN C d_Mod_compare_110 ?_ | refine g_mul C d_Mod_compare_110 ?_
                  refine g_ldn C d_Mod_compare_111 rfl ?_
                  first | refine g_addN C d_Mod_compare_112 ?_ | refine g_add C d_Mod_compare_112 ?_
                  refine r_ld0 C d_Mod_compare_113 hR (by omega) (hU.2.1 b (by omega)) ?_
                  refine g_st C [_, _, _, _, _, _, _, _] d_Mod_compare_114 (Nat.le_of_ble_eq_true rfl) rfl ?_
                  refine g_ld C d_Mod_compare_116 rfl ?_
                  refine g_ld C d_Mod_compare_118 rfl ?_
                  refine g_icmp_eq C 136 d_Mod_compare_120 (by decide) rfl rfl (fun b120 => ?_) (fun b120 => ?_)
                  · rw [if_pos (i3_eq.mpr b120)] at cs
                    refine g_incN C [_, _, _, _, _, _, _, _] d_Mod_compare_136 rfl rfl ?_
                    refine g_goto C 20 d_Mod_compare_139 (by decide) ?_
                    refine V.le (lvle.keep (lvle.keep (lvle.keep (lvle.keep (lvle.drop (lvle.drop (lvle.drop (lvle.drop lvle.nil)))))))) ?_
                    exact ih (b + 1) (by omega) (by omega) (by omega) (by omega) (he.trans cs)
                  · rw [if_neg (fun z => b120 (i3_eq.mp z))] at cs
                    refine g_ld C d_Mod_compare_123 rfl ?_
                    refine g_ld C d_Mod_compare_125 rfl ?_
                    refine g_icmp_ge C 134 d_Mod_compare_127 (by decide) rfl rfl (fun b127 => ?_) (fun b127 => ?_)
                    · refine g_iconst (v := nI 1) C d_Mod_compare_134 rfl ?_
                      exact g_iret C Rr d_Mod_compare_135 rfl (by decide) (by decide) ⟨_, rfl, rfl, by rw [eq, he, cs, if_neg (fun z => by have := i3_lt.mp z; omega)]; rfl⟩
                    · refine g_iconst (v := -1) C d_Mod_compare_130 rfl ?_
                      refine g_goto C 135 d_Mod_compare_131 (by decide) ?_
                      exact g_iret C Rr d_Mod_compare_135 rfl (by decide) (by decide) ⟨_, rfl, rfl, by rw [eq, he, cs, if_pos (i3_lt.mpr (by omega))]⟩
                · refine g_ldn C d_Mod_compare_26 rfl ?_
                  refine g_aldn C d_Mod_compare_27 rfl ?_
                  refine r_f2 C d_Mod_compare_28 hR ?_
                  refine g_ldn C d_Mod_compare_31 rfl ?_
                  refine r_ld2 C d_Mod_compare_32 hR (by omega) hV.1 ?_
                  refine g_icmp_ge C 40 d_Mod_compare_33 (by decide) (by first | exact nI_toInt (by omega) | rfl) (by first | exact nI_toInt (by omega) | rfl) (fun b33 => by exfalso; omega) (fun b33 => ?_)
                  refine g_iconst (v := nI 1) C d_Mod_compare_36 rfl ?_
                  refine g_goto C 41 d_Mod_compare_37 (by decide) ?_
                  refine g_st C [_, _, _, _, _, _, _, _] d_Mod_compare_41 (Nat.le_of_ble_eq_true rfl) rfl ?_
                  refine g_ldn C d_Mod_compare_43 rfl ?_
                  refine g_aldn C d_Mod_compare_44 rfl ?_
                  refine r_f2 C d_Mod_compare_45 hR ?_
                  refine g_ldn C d_Mod_compare_48 rfl ?_
                  refine r_ld2 C d_Mod_compare_49 hR (by omega) hU.1 ?_
                  refine g_icmp_ge C 57 d_Mod_compare_50 (by decide) (by first | exact nI_toInt (by omega) | rfl) (by first | exact nI_toInt (by omega) | rfl) (fun b50 => ?_) (fun b50 => by exfalso; omega)
                  refine g_iconst (v := nI 0) C d_Mod_compare_57 rfl ?_
                  refine g_st C [_, _, _, _, _, _, _, _] d_Mod_compare_58 (Nat.le_of_ble_eq_true rfl) rfl ?_
                  refine g_ld C d_Mod_compare_60 rfl ?_
                  refine g_if_eq C 70 d_Mod_compare_62 (by decide) (by first | exact nI_toInt (by omega) | rfl) (fun b62 => by exfalso; omega) (fun b62 => ?_)
                  refine g_ld C d_Mod_compare_65 rfl ?_
                  refine g_if_ne C 90 d_Mod_compare_67 (by decide) (by first | exact nI_toInt (by omega) | rfl) (fun b67 => by exfalso; omega) (fun b67 => ?_)
                  refine g_ld C d_Mod_compare_70 rfl ?_
                  refine g_if_eq C 79 d_Mod_compare_72 (by decide) (by first | exact nI_toInt (by omega) | rfl) (fun b72 => by exfalso; omega) (fun b72 => ?_)
                  refine g_iconst (v := nI 1) C d_Mod_compare_75 rfl ?_
                  refine g_goto C 89 d_Mod_compare_76 (by decide) ?_
                  exact g_iret C Rr d_Mod_compare_89 rfl (by decide) (by decide) ⟨_, rfl, rfl, by rw [eq, he, drop_cons (L := (S_ S a).1.1) zA, show (S_ S c).1.1.drop b = [] from List.drop_of_length_le (by omega)]; rfl⟩
              · by_cases zB : b < (S_ S c).1.1.length
                · refine g_ldn C d_Mod_compare_26 rfl ?_
                  refine g_aldn C d_Mod_compare_27 rfl ?_
                  refine r_f2 C d_Mod_compare_28 hR ?_
                  refine g_ldn C d_Mod_compare_31 rfl ?_
                  refine r_ld2 C d_Mod_compare_32 hR (by omega) hV.1 ?_
                  refine g_icmp_ge C 40 d_Mod_compare_33 (by decide) (by first | exact nI_toInt (by omega) | rfl) (by first | exact nI_toInt (by omega) | rfl) (fun b33 => ?_) (fun b33 => by exfalso; omega)
                  refine g_iconst (v := nI 0) C d_Mod_compare_40 rfl ?_
                  refine g_st C [_, _, _, _, _, _, _, _] d_Mod_compare_41 (Nat.le_of_ble_eq_true rfl) rfl ?_
                  refine g_ldn C d_Mod_compare_43 rfl ?_
                  refine g_aldn C d_Mod_compare_44 rfl ?_
                  refine r_f2 C d_Mod_compare_45 hR ?_
                  refine g_ldn C d_Mod_compare_48 rfl ?_
                  refine r_ld2 C d_Mod_compare_49 hR (by omega) hU.1 ?_
                  refine g_icmp_ge C 57 d_Mod_compare_50 (by decide) (by first | exact nI_toInt (by omega) | rfl) (by first | exact nI_toInt (by omega) | rfl) (fun b50 => by exfalso; omega) (fun b50 => ?_)
                  refine g_iconst (v := nI 1) C d_Mod_compare_53 rfl ?_
                  refine g_goto C 58 d_Mod_compare_54 (by decide) ?_
                  refine g_st C [_, _, _, _, _, _, _, _] d_Mod_compare_58 (Nat.le_of_ble_eq_true rfl) rfl ?_
                  refine g_ld C d_Mod_compare_60 rfl ?_
                  refine g_if_eq C 70 d_Mod_compare_62 (by decide) (by first | exact nI_toInt (by omega) | rfl) (fun b62 => ?_) (fun b62 => by exfalso; omega)
                  refine g_ld C d_Mod_compare_70 rfl ?_
                  refine g_if_eq C 79 d_Mod_compare_72 (by decide) (by first | exact nI_toInt (by omega) | rfl) (fun b72 => ?_) (fun b72 => by exfalso; omega)
                  refine g_ld C d_Mod_compare_79 rfl ?_
                  refine g_if_eq C 88 d_Mod_compare_81 (by decide) (by first | exact nI_toInt (by omega) | rfl) (fun b81 => by exfalso; omega) (fun b81 => ?_)
                  refine g_iconst (v := -1) C d_Mod_compare_84 rfl ?_
                  refine g_goto C 89 d_Mod_compare_85 (by decide) ?_
                  exact g_iret C Rr d_Mod_compare_89 rfl (by decide) (by decide) ⟨_, rfl, rfl, by rw [eq, he, drop_cons (L := (S_ S c).1.1) zB, show (S_ S a).1.1.drop b = [] from List.drop_of_length_le (by omega)]; rfl⟩
                · refine g_ldn C d_Mod_compare_26 rfl ?_
                  refine g_aldn C d_Mod_compare_27 rfl ?_
                  refine r_f2 C d_Mod_compare_28 hR ?_
                  refine g_ldn C d_Mod_compare_31 rfl ?_
                  refine r_ld2 C d_Mod_compare_32 hR (by omega) hV.1 ?_
                  refine g_icmp_ge C 40 d_Mod_compare_33 (by decide) (by first | exact nI_toInt (by omega) | rfl) (by first | exact nI_toInt (by omega) | rfl) (fun b33 => ?_) (fun b33 => by exfalso; omega)
                  refine g_iconst (v := nI 0) C d_Mod_compare_40 rfl ?_
                  refine g_st C [_, _, _, _, _, _, _, _] d_Mod_compare_41 (Nat.le_of_ble_eq_true rfl) rfl ?_
                  refine g_ldn C d_Mod_compare_43 rfl ?_
                  refine g_aldn C d_Mod_compare_44 rfl ?_
                  refine r_f2 C d_Mod_compare_45 hR ?_
                  refine g_ldn C d_Mod_compare_48 rfl ?_
                  refine r_ld2 C d_Mod_compare_49 hR (by omega) hU.1 ?_
                  refine g_icmp_ge C 57 d_Mod_compare_50 (by decide) (by first | exact nI_toInt (by omega) | rfl) (by first | exact nI_toInt (by omega) | rfl) (fun b50 => ?_) (fun b50 => by exfalso; omega)
                  refine g_iconst (v := nI 0) C d_Mod_compare_57 rfl ?_
                  refine g_st C [_, _, _, _, _, _, _, _] d_Mod_compare_58 (Nat.le_of_ble_eq_true rfl) rfl ?_
                  refine g_ld C d_Mod_compare_60 rfl ?_
                  refine g_if_eq C 70 d_Mod_compare_62 (by decide) (by first | exact nI_toInt (by omega) | rfl) (fun b62 => ?_) (fun b62 => by exfalso; omega)
                  refine g_ld C d_Mod_compare_70 rfl ?_
                  refine g_if_eq C 79 d_Mod_compare_72 (by decide) (by first | exact nI_toInt (by omega) | rfl) (fun b72 => ?_) (fun b72 => by exfalso; omega)
                  refine g_ld C d_Mod_compare_79 rfl ?_
                  refine g_if_eq C 88 d_Mod_compare_81 (by decide) (by first | exact nI_toInt (by omega) | rfl) (fun b81 => ?_) (fun b81 => by exfalso; omega)
                  refine g_iconst (v := nI 0) C d_Mod_compare_88 rfl ?_
                  exact g_iret C Rr d_Mod_compare_89 rfl (by decide) (by decide) ⟨_, rfl, rfl, by rw [eq, he, List.drop_of_length_le (by omega), List.drop_of_length_le (by omega)]; rfl⟩
          refine g_iconst (v := nI 0) C d_Mod_compare_18 rfl ?_
          refine g_stn C [_, _, _, _, _, _, _, _] d_Mod_compare_19 (Nat.le_of_ble_eq_true rfl) rfl ?_
          exact loop 0 (by omega) (by omega) (by omega) rfl
        · exfalso; omega
      · refine g_callV (ci := kMod) C d_Mod_compare_10 cw_Mod_55 sl_Mod_there (c_Mod_there X.1 w0 w m R S u hk hR) rfl hR.2.1 (As := [.int (u)]) rfl rfl rfl (Nat.le_of_ble_eq_true rfl) ⟨rfl, rfl, by decide, by decide⟩ ⟨by decide, by decide⟩ (kI (fun r w2 h2 => ?_))
        rw [h2.1, h2.2, if_neg hu]
        refine g_if_ne C 18 d_Mod_compare_13 (by decide) (by first | exact nI_toInt (by omega) | rfl) (fun b13 => ?_) (fun b13 => ?_)
        · exfalso; omega
        · refine g_iconst (v := nI 2) C d_Mod_compare_16 rfl ?_
          exact g_iret C Rr d_Mod_compare_17 rfl (by decide) (by decide) ⟨_, rfl, rfl, by unfold sCmp; rw [if_neg (fun z => hu z.2)]; rfl⟩
  · refine g_callV (ci := kMod) C d_Mod_compare_2 cw_Mod_55 sl_Mod_there (c_Mod_there X.1 w0 w m R S v hk hR) rfl hR.2.1 (As := [.int (v)]) rfl rfl rfl (Nat.le_of_ble_eq_true rfl) ⟨rfl, rfl, by decide, by decide⟩ ⟨by decide, by decide⟩ (kI (fun r w2 h2 => ?_))
    rw [h2.1, h2.2, if_neg hv]
    refine g_if_eq C 16 d_Mod_compare_5 (by decide) (by first | exact nI_toInt (by omega) | rfl) (fun b5 => ?_) (fun b5 => ?_)
    · refine g_iconst (v := nI 2) C d_Mod_compare_16 rfl ?_
      exact g_iret C Rr d_Mod_compare_17 rfl (by decide) (by decide) ⟨_, rfl, rfl, by unfold sCmp; rw [if_neg (fun z => hv z.1)]; rfl⟩
    · exfalso; omega
set_option maxRecDepth 100000 in
set_option maxHeartbeats 4000000 in
theorem c_Mod_row (N : gN) (w0 w : gW) (m : Nat) (R : RA) (S : St) (v l k : Int32) (hS : RefS R S) (hR : RefW w0 w m R S.length) : CtN N y_Mod_row b_Mod_row 4 (some FieldType.int) (rmm 1 21 0 0) [.ref m, .int v, .int l, .int k] w (pI (fun r w' => w' = w ∧ r = sRow S v l k)) 0 0 := by
  refine ct_intro N [some (.ref m), some (.int v), some (.int l), some (.int k)] (by decide) rfl (Nat.le_of_ble_eq_true rfl) (by simp [Value.category]) ?_
  intro X hX C Rr
  have hk := hS.1.2.1
  refine g_aldn C d_Mod_row_0 rfl ?_
  refine g_ldn C d_Mod_row_1 rfl ?_
  by_cases hv : vOk S v
  · refine g_callV (ci := kMod) C d_Mod_row_2 cw_Mod_55 sl_Mod_there (c_Mod_there X.1 w0 w m R S v hk hR) rfl hR.2.1 (As := [.int (v)]) rfl rfl rfl (Nat.le_of_ble_eq_true rfl) ⟨rfl, rfl, by decide, by decide⟩ ⟨by decide, by decide⟩ (kI (fun r w2 h2 => ?_))
    rw [h2.1, h2.2, if_pos hv]
    refine g_if_eq C 41 d_Mod_row_5 (by decide) (by first | exact nI_toInt (by omega) | rfl) (fun b5 => ?_) (fun b5 => ?_)
    · exfalso; omega
    · obtain ⟨a, ha, rfl⟩ := vOk_ex hv
      have ha31 : a < 2 ^ 31 := by omega
      have hV := (hS.2 a ha).1
      have hwf := hS.wf ha
      have hl := hwf.1
      have hh := hwf.2.1
      refine g_ldn C d_Mod_row_8 rfl ?_
      refine g_iconst (v := nI 1) C d_Mod_row_9 rfl ?_
      refine g_icmp_lt C 41 d_Mod_row_10 (by decide) rfl (by first | exact nI_toInt (by omega) | rfl) (fun b10 => ?_) (fun b10 => ?_)
      · refine g_iconst (v := -1) C d_Mod_row_41 rfl ?_
        exact g_iret C Rr d_Mod_row_42 rfl (by decide) (by decide) ⟨_, rfl, rfl, by unfold sRow; rw [if_neg (fun z => by have := z.2.1; omega)]⟩
      · refine g_ldn C d_Mod_row_13 rfl ?_
        refine g_aldn C d_Mod_row_14 rfl ?_
        refine r_f3 C d_Mod_row_15 hR ?_
        refine g_ldn C d_Mod_row_18 rfl ?_
        refine r_ld3 C d_Mod_row_19 hR (by omega) hV.2.2.1 ?_
        refine g_icmp_gt C 41 d_Mod_row_20 (by decide) rfl (by first | exact nI_toInt (by omega) | rfl) (fun b20 => ?_) (fun b20 => ?_)
        · refine g_iconst (v := -1) C d_Mod_row_41 rfl ?_
          exact g_iret C Rr d_Mod_row_42 rfl (by decide) (by decide) ⟨_, rfl, rfl, by unfold sRow; rw [if_neg (fun z => by have := z.2.2.1; rw [vT_N ha31] at this; omega)]⟩
        · rcases i32_sgn l with hn | ⟨b, hb, rfl⟩
          · exfalso; omega
          have tb := nI_toInt hb
          have hrow := hV.2.2.2 b (by omega) (by omega)
          have r80 := wf_len hwf b
          refine g_ldn C d_Mod_row_23 rfl ?_
          refine g_if_lt C 41 d_Mod_row_24 (by decide) rfl (fun b24 => ?_) (fun b24 => ?_)
          · refine g_iconst (v := -1) C d_Mod_row_41 rfl ?_
            exact g_iret C Rr d_Mod_row_42 rfl (by decide) (by decide) ⟨_, rfl, rfl, by unfold sRow; rw [if_neg (fun z => by have := z.2.2.2.1; omega)]⟩
          · refine g_ldn C d_Mod_row_27 rfl ?_
            refine g_aldn C d_Mod_row_28 rfl ?_
            refine r_f4 C d_Mod_row_29 hR ?_
            refine g_iconst (v := nI 5) C d_Mod_row_32 rfl ?_
            refine g_ldn C d_Mod_row_33 rfl ?_
            first | refine g_mulN C d_Mod_row_34 ?_ | refine g_mul C d_Mod_row_34 ?_
            refine g_ldn C d_Mod_row_35 rfl ?_
            first | refine g_addN C d_Mod_row_36 ?_ | refine g_add C d_Mod_row_36 ?_
            refine r_ld4 C d_Mod_row_37 hR (by omega) hrow.1 ?_
            refine g_icmp_lt C 43 d_Mod_row_38 (by decide) rfl (by first | exact nI_toInt (by omega) | rfl) (fun b38 => ?_) (fun b38 => ?_)
            · rcases i32_sgn k with hn | ⟨c, hc, rfl⟩
              · exfalso; omega
              have tc := nI_toInt hc
              refine g_aldn C d_Mod_row_43 rfl ?_
              refine r_f1 C d_Mod_row_44 hR ?_
              refine g_sipush (v := nI 320) C d_Mod_row_47 (by decide) ?_
              refine g_ldn C d_Mod_row_50 rfl ?_
              first | refine g_mulN C d_Mod_row_51 ?_ | refine g_mul C d_Mod_row_51 ?_
              refine g_bipush (v := nI 80) C d_Mod_row_52 (by decide) ?_
              refine g_ldn C d_Mod_row_54 rfl ?_
              refine g_iconst (v := nI 1) C d_Mod_row_55 rfl ?_
              first | refine g_subN C d_Mod_row_56 (by omega) ?_ | refine g_sub C d_Mod_row_56 ?_
              first | refine g_mulN C d_Mod_row_57 ?_ | refine g_mul C d_Mod_row_57 ?_
              first | refine g_addN C d_Mod_row_58 ?_ | refine g_add C d_Mod_row_58 ?_
              refine g_ldn C d_Mod_row_59 rfl ?_
              first | refine g_addN C d_Mod_row_60 ?_ | refine g_add C d_Mod_row_60 ?_
              refine r_ld1 C d_Mod_row_61 hR (by omega) (hrow.2 c (by omega)) ?_
              exact g_iret C Rr d_Mod_row_62 rfl (by decide) (by decide) ⟨_, rfl, rfl, by unfold sRow; rw [vT_N ha31, nI_tn hb, nI_tn hc, if_pos ⟨hv, by omega, by omega, by omega, by omega⟩]⟩
            · refine g_iconst (v := -1) C d_Mod_row_41 rfl ?_
              exact g_iret C Rr d_Mod_row_42 rfl (by decide) (by decide) ⟨_, rfl, rfl, by unfold sRow; rw [if_neg (fun z => by have := z.2.2.2.2; rw [vT_N ha31, nI_tn hb] at this; omega)]⟩
  · refine g_callV (ci := kMod) C d_Mod_row_2 cw_Mod_55 sl_Mod_there (c_Mod_there X.1 w0 w m R S v hk hR) rfl hR.2.1 (As := [.int (v)]) rfl rfl rfl (Nat.le_of_ble_eq_true rfl) ⟨rfl, rfl, by decide, by decide⟩ ⟨by decide, by decide⟩ (kI (fun r w2 h2 => ?_))
    rw [h2.1, h2.2, if_neg hv]
    refine g_if_eq C 41 d_Mod_row_5 (by decide) (by first | exact nI_toInt (by omega) | rfl) (fun b5 => ?_) (fun b5 => ?_)
    · refine g_iconst (v := -1) C d_Mod_row_41 rfl ?_
      exact g_iret C Rr d_Mod_row_42 rfl (by decide) (by decide) ⟨_, rfl, rfl, by unfold sRow; rw [if_neg (fun z => hv z.1)]⟩
    · exfalso; omega
set_option maxRecDepth 100000 in
set_option maxHeartbeats 4000000 in
theorem c_Mod_before (N : gN) (w0 w : gW) (m : Nat) (R : RA) (md a l : Nat) (Q : List Nat) (ha : a < 40) (l1 : 1 ≤ l) (l4 : l ≤ 4) (hQ : okR Q) (h80 : Q.length ≤ 80) (hV : VRow R a l Q) (hR : RefW w0 w m R md) (c : Nat) (hc : c ≤ Q.length) : CtN N y_Mod_before b_Mod_before 6 (some FieldType.int) (rmm 0 0 0 0) [.ref m, .int (nI a), .int (nI l), .int (nI c)] w (pI (fun r w' => w' = w ∧ r = nI (ps Q c))) 0 0 := by
  refine ct_intro N [some (.ref m), some (.int (nI a)), some (.int (nI l)), some (.int (nI c)), none, none] (by decide) rfl (Nat.le_of_ble_eq_true rfl) (by simp [Value.category]) ?_
  intro X hX C Rr
  have loop : ∀ b, b ≤ c → V X w 0 0 [some (.ref m), some (.int (nI a)), some (.int (nI l)), some (.int (nI c)), some (.int (nI (ps Q b))), some (.int (nI (b)))] [] 6 := by
    refine upto _ (fun b hb ih => ?_)
    have pss := ps_s Q b
    refine g_ld C d_Mod_before_6 rfl ?_
    refine g_ldn C d_Mod_before_8 rfl ?_
    refine g_icmp_ge C 43 d_Mod_before_9 (by decide) (by first | exact nI_toInt (by omega) | rfl) (by first | exact nI_toInt (by omega) | rfl) (fun b9 => ?_) (fun b9 => ?_)
    · have e : b = c := by omega
      subst e
      refine g_ld C d_Mod_before_43 rfl ?_
      exact g_iret C Rr d_Mod_before_45 rfl (by decide) (by decide) ⟨_, rfl, rfl, rfl⟩
    · refine g_ld C d_Mod_before_12 rfl ?_
      refine g_aldn C d_Mod_before_14 rfl ?_
      refine r_f1 C d_Mod_before_15 hR ?_
      refine g_sipush (v := nI 320) C d_Mod_before_18 (by decide) ?_
      refine g_ldn C d_Mod_before_21 rfl ?_
      first | refine g_mulN C d_Mod_before_22 ?_ | refine g_mul C d_Mod_before_22 ?_
      refine g_bipush (v := nI 80) C d_Mod_before_23 (by decide) ?_
      refine g_ldn C d_Mod_before_25 rfl ?_
      refine g_iconst (v := nI 1) C d_Mod_before_26 rfl ?_
      first | refine g_subN C d_Mod_before_27 (by omega) ?_ | refine g_sub C d_Mod_before_27 ?_
      first | refine g_mulN C d_Mod_before_28 ?_ | refine g_mul C d_Mod_before_28 ?_
      first | refine g_addN C d_Mod_before_29 ?_ | refine g_add C d_Mod_before_29 ?_
      refine g_ld C d_Mod_before_30 rfl ?_
      first | refine g_addN C d_Mod_before_32 ?_ | refine g_add C d_Mod_before_32 ?_
      refine r_ld1 C d_Mod_before_33 hR (by omega) (hV.2 b (by omega)) ?_
      first | refine g_addN C d_Mod_before_34 ?_ | refine g_add C d_Mod_before_34 ?_
      rw [← pss]
      refine g_st C [_, _, _, _, _, _] d_Mod_before_35 (Nat.le_of_ble_eq_true rfl) rfl ?_
      refine g_incN C [_, _, _, _, _, _] d_Mod_before_37 rfl rfl ?_
      refine g_goto C 6 d_Mod_before_40 (by decide) ?_
      exact ih (b + 1) (by omega) (by omega)
  refine g_iconst (v := nI 0) C d_Mod_before_0 rfl ?_
  refine g_st C [_, _, _, _, _, _] d_Mod_before_1 (Nat.le_of_ble_eq_true rfl) rfl ?_
  refine g_iconst (v := nI 0) C d_Mod_before_3 rfl ?_
  refine g_st C [_, _, _, _, _, _] d_Mod_before_4 (Nat.le_of_ble_eq_true rfl) rfl ?_
  have q0 := loop 0 (by omega)
  rw [ps_0] at q0
  exact q0
set_option maxRecDepth 100000 in
set_option maxHeartbeats 4000000 in
theorem c_Mod_holding (N : gN) (w0 w : gW) (m : Nat) (R : RA) (md a l : Nat) (Q : List Nat) (ha : a < 40) (l1 : 1 ≤ l) (l4 : l ≤ 4) (hQ : okR Q) (h80 : Q.length ≤ 80) (hV : VRow R a l Q) (hR : RefW w0 w m R md) (s : Nat) (hs : s < Q.sum) (hs31 : s < 2 ^ 31) : CtN N y_Mod_holding b_Mod_holding 5 (some FieldType.int) (rmm 1 25 0 0) [.ref m, .int (nI a), .int (nI l), .int (nI s)] w (pI (fun r w' => w' = w ∧ r = nI (hold Q s))) 0 0 := by
  refine ct_intro N [some (.ref m), some (.int (nI a)), some (.int (nI l)), some (.int (nI s)), none] (by decide) rfl (Nat.le_of_ble_eq_true rfl) (by simp [Value.category]) ?_
  intro X hX C Rr
  have hne : 1 ≤ Q.length := by
    by_cases z : Q = []
    · subst z; simp at hs
    · exact Nat.one_le_iff_ne_zero.mpr (fun y => z (List.length_eq_zero_iff.mp y))
  have loop : ∀ b, b ≤ Q.length - 1 → ps Q b ≤ s → V X w 0 0 [some (.ref m), some (.int (nI a)), some (.int (nI l)), some (.int (nI s)), some (.int (nI (b)))] [] 3 := by
    refine upto _ (fun b hb ih hbs => ?_)
    have hb1 := okR_ps hQ h80 (b + 1)
    refine g_ld C d_Mod_holding_3 rfl ?_
    refine g_iconst (v := nI 1) C d_Mod_holding_5 rfl ?_
    first | refine g_addN C d_Mod_holding_6 ?_ | refine g_add C d_Mod_holding_6 ?_
    refine g_aldn C d_Mod_holding_7 rfl ?_
    refine r_f4 C d_Mod_holding_8 hR ?_
    refine g_iconst (v := nI 5) C d_Mod_holding_11 rfl ?_
    refine g_ldn C d_Mod_holding_12 rfl ?_
    first | refine g_mulN C d_Mod_holding_13 ?_ | refine g_mul C d_Mod_holding_13 ?_
    refine g_ldn C d_Mod_holding_14 rfl ?_
    first | refine g_addN C d_Mod_holding_15 ?_ | refine g_add C d_Mod_holding_15 ?_
    refine r_ld4 C d_Mod_holding_16 hR (by omega) hV.1 ?_
    refine g_icmp_ge C 40 d_Mod_holding_17 (by decide) (by first | exact nI_toInt (by omega) | rfl) (by first | exact nI_toInt (by omega) | rfl) (fun b17 => ?_) (fun b17 => ?_)
    · refine g_ld C d_Mod_holding_40 rfl ?_
      exact g_iret C Rr d_Mod_holding_42 rfl (by decide) (by decide) ⟨_, rfl, rfl, congrArg nI (hold_eq Q s b (fun j hj => Nat.le_trans (ps_mono Q (by omega)) hbs) (fun _ => by rw [ps_len (by omega)]; exact hs) (by omega)).symm⟩
    · refine g_aldn C d_Mod_holding_20 rfl ?_
      refine g_ldn C d_Mod_holding_21 rfl ?_
      refine g_ldn C d_Mod_holding_22 rfl ?_
      refine g_ld C d_Mod_holding_23 rfl ?_
      refine g_iconst (v := nI 1) C d_Mod_holding_25 rfl ?_
      first | refine g_addN C d_Mod_holding_26 ?_ | refine g_add C d_Mod_holding_26 ?_
      refine g_callV (ci := kMod) C d_Mod_holding_27 cw_Mod_112 sl_Mod_before (c_Mod_before X.1 w0 w m R md a l Q ha l1 l4 hQ h80 hV hR (b + 1) (by omega)) rfl hR.2.1 (As := [.int (nI a), .int (nI l), .int (nI (b + 1))]) rfl rfl rfl (Nat.le_of_ble_eq_true rfl) ⟨rfl, rfl, by decide, by decide⟩ ⟨by decide, by decide⟩ (kI (fun r w2 h2 => ?_))
      rw [h2.1, h2.2]
      refine g_ldn C d_Mod_holding_30 rfl ?_
      refine g_icmp_gt C 40 d_Mod_holding_31 (by decide) (by first | exact nI_toInt (by omega) | rfl) (by first | exact nI_toInt (by omega) | rfl) (fun b31 => ?_) (fun b31 => ?_)
      · refine g_ld C d_Mod_holding_40 rfl ?_
        exact g_iret C Rr d_Mod_holding_42 rfl (by decide) (by decide) ⟨_, rfl, rfl, congrArg nI (hold_eq Q s b (fun j hj => Nat.le_trans (ps_mono Q (by omega)) hbs) (fun _ => by omega) (by omega)).symm⟩
      · refine g_incN C [_, _, _, _, _] d_Mod_holding_34 rfl rfl ?_
        refine g_goto C 3 d_Mod_holding_37 (by decide) ?_
        exact ih (b + 1) (by omega) (by omega) (by omega)
  refine g_iconst (v := nI 0) C d_Mod_holding_0 rfl ?_
  refine g_st C [_, _, _, _, _] d_Mod_holding_1 (Nat.le_of_ble_eq_true rfl) rfl ?_
  exact loop 0 (by omega) (by rw [ps_0]; omega)
set_option maxRecDepth 100000 in
set_option maxHeartbeats 4000000 in
theorem c_Mod_probes (N : gN) (w0 w : gW) (m : Nat) (R : RA) (S : St) (v i : Int32) (hS : RefS R S) (hR : RefW w0 w m R S.length) : CtN N y_Mod_probes b_Mod_probes 10 (some FieldType.int) (rmm 2 49 0 0) [.ref m, .int v, .int i] w (pI (fun r w' => w' = w ∧ r = sPrb S v i)) 0 0 := by
  refine ct_intro N [some (.ref m), some (.int v), some (.int i), none, none, none, none, none, none, none] (by decide) rfl (Nat.le_of_ble_eq_true rfl) (by simp [Value.category]) ?_
  intro X hX C Rr
  have hk := hS.1.2.1
  refine g_aldn C d_Mod_probes_0 rfl ?_
  refine g_ldn C d_Mod_probes_1 rfl ?_
  by_cases hv : vOk S v
  · refine g_callV (ci := kMod) C d_Mod_probes_2 cw_Mod_55 sl_Mod_there (c_Mod_there X.1 w0 w m R S v hk hR) rfl hR.2.1 (As := [.int (v)]) rfl rfl rfl (Nat.le_of_ble_eq_true rfl) ⟨rfl, rfl, by decide, by decide⟩ ⟨by decide, by decide⟩ (kI (fun r w2 h2 => ?_))
    rw [h2.1, h2.2, if_pos hv]
    refine g_if_eq C 22 d_Mod_probes_5 (by decide) (by first | exact nI_toInt (by omega) | rfl) (fun b5 => ?_) (fun b5 => ?_)
    · exfalso; omega
    · obtain ⟨a, ha, rfl⟩ := vOk_ex hv
      have ha31 : a < 2 ^ 31 := by omega
      have hV := (hS.2 a ha).1
      have hwf := hS.wf ha
      have hl := hwf.1
      have hh := hwf.2.1
      refine g_ldn C d_Mod_probes_8 rfl ?_
      refine g_if_lt C 22 d_Mod_probes_9 (by decide) rfl (fun b9 => ?_) (fun b9 => ?_)
      · refine g_iconst (v := -1) C d_Mod_probes_22 rfl ?_
        exact g_iret C Rr d_Mod_probes_23 rfl (by decide) (by decide) ⟨_, rfl, rfl, by unfold sPrb; rw [if_neg (fun z => by have := z.2.1; omega)]⟩
      · refine g_ldn C d_Mod_probes_12 rfl ?_
        refine g_aldn C d_Mod_probes_13 rfl ?_
        refine r_f2 C d_Mod_probes_14 hR ?_
        refine g_ldn C d_Mod_probes_17 rfl ?_
        refine r_ld2 C d_Mod_probes_18 hR (by omega) hV.1 ?_
        refine g_icmp_lt C 24 d_Mod_probes_19 (by decide) rfl (by first | exact nI_toInt (by omega) | rfl) (fun b19 => ?_) (fun b19 => ?_)
        · have hp : plc S (nI a) i := ⟨by omega, by rw [vT_N ha31]; omega⟩
          obtain ⟨c, hc, rfl⟩ := plc_ex hp
          rw [vT_N ha31] at hc
          have hh1 : 1 ≤ (S_ S a).1.2.2 := Nat.one_le_iff_ne_zero.mpr (fun q => by have := hwf.2.2.1.mp q; omega)
          have hin := fun l z => cut_in hwf (f := c) (e := c + 1) (by omega) (by omega) l z
          have hsum := fun l z1 z2 => (hwf.2.2.2.2.1 l z1 z2).2
          have r80 := wf_len hwf
          have hok := wf_okR hwf
          have hF80 := cutF_le hwf (f := c) (by omega)
          have lpl : ∀ q, q + 1 ≤ (S_ S a).1.2.2 → cutF (S_ S a).1.2.1 c q < ((S_ S a).1.2.1 (q + 1)).sum := fun q z => by have := hin q (by omega); have e := hsum (q + 1) (by omega) z; rw [Nat.add_sub_cancel] at e; omega
          have loop : ∀ q, q ≤ (S_ S a).1.2.2 - 1 → V X w 0 0 [some (.ref m), some (.int (nI a)), some (.int (nI c)), some (.int (prb (S_ S a).1.2.1 c (q + 1))), some (.int (nI (cutF (S_ S a).1.2.1 c (q + 1)))), some (.int (nI (4 ^ q))), some (.int (nI (q + 1 + 1))), none, none, none] [] 41 := by
            refine upto _ (fun q hq ih => ?_)
            refine g_ld C d_Mod_probes_41 rfl ?_
            refine g_aldn C d_Mod_probes_43 rfl ?_
            refine r_f3 C d_Mod_probes_44 hR ?_
            refine g_ldn C d_Mod_probes_47 rfl ?_
            refine r_ld3 C d_Mod_probes_48 hR (by omega) hV.2.2.1 ?_
            refine g_icmp_gt C 133 d_Mod_probes_49 (by decide) (by first | exact nI_toInt (by omega) | rfl) (by first | exact nI_toInt (by omega) | rfl) (fun b49 => ?_) (fun b49 => ?_)
            · have e : q + 1 = (S_ S a).1.2.2 := by omega
              refine g_ldn C d_Mod_probes_133 rfl ?_
              exact g_iret C Rr d_Mod_probes_134 rfl (by decide) (by decide) ⟨_, rfl, rfl, by unfold sPrb; rw [if_pos ⟨hv, hp⟩, vT_N ha31, nI_tn (by omega), ← e]⟩
            · have hq3 : q ≤ 2 := by omega
              have hpw : 4 ^ (q + 1) ≤ 64 ∧ 0 < 4 ^ (q + 1) := by rcases (show q = 0 ∨ q = 1 ∨ q = 2 by omega) with rfl | rfl | rfl <;> decide
              have hrow := hV.2.2.2 (q + 1 + 1) (by omega) (by omega)
              have f80 := hF80 (q + 1)
              have g80 := hF80 (q + 1 + 1)
              refine g_iconst (v := nI 4) C d_Mod_probes_52 rfl ?_
              refine g_ld C d_Mod_probes_53 rfl ?_
              first | refine g_mulN C d_Mod_probes_55 ?_ | refine g_mul C d_Mod_probes_55 ?_
              rw [show 4 * 4 ^ q = 4 ^ (q + 1) by rw [Nat.pow_succ, Nat.mul_comm]]
              refine g_st C [_, _, _, _, _, _, _, _, _, _] d_Mod_probes_56 (Nat.le_of_ble_eq_true rfl) rfl ?_
              refine g_aldn C d_Mod_probes_58 rfl ?_
              refine g_ldn C d_Mod_probes_59 rfl ?_
              refine g_ld C d_Mod_probes_60 rfl ?_
              refine g_ld C d_Mod_probes_62 rfl ?_
              refine g_callV (ci := kMod) C d_Mod_probes_64 cw_Mod_115 sl_Mod_holding (c_Mod_holding X.1 w0 w m R S.length a (q + 1 + 1) ((S_ S a).1.2.1 (q + 1 + 1)) (by omega) (by omega) (by omega) (hok _) (r80 _) hrow hR (cutF (S_ S a).1.2.1 c (q + 1)) (lpl (q + 1) (by omega)) (by omega)) rfl hR.2.1 (As := [.int (nI a), .int (nI (q + 1 + 1)), .int (nI (cutF (S_ S a).1.2.1 c (q + 1)))]) rfl rfl rfl (Nat.le_of_ble_eq_true rfl) ⟨rfl, rfl, by decide, by decide⟩ ⟨by decide, by decide⟩ (kI (fun r w2 h2 => ?_))
              rw [h2.1, h2.2, show hold ((S_ S a).1.2.1 (q + 1 + 1)) (cutF (S_ S a).1.2.1 c (q + 1)) = cutF (S_ S a).1.2.1 c (q + 1 + 1) from rfl]
              have hnl : cutF (S_ S a).1.2.1 c (q + 1 + 1) ≤ ((S_ S a).1.2.1 (q + 1 + 1)).length := hold_le _ _
              have down : ∀ b v, b ≤ q + 1 + 1 → v ≤ 80 → (1 ≤ b → v ≤ ((S_ S a).1.2.1 b).length) → fpu (S_ S a).1.2.1 b v = fpu (S_ S a).1.2.1 (q + 1 + 1) (cutF (S_ S a).1.2.1 c (q + 1 + 1)) → V X w 0 0 [some (.ref m), some (.int (nI a)), some (.int (nI c)), some (.int (prb (S_ S a).1.2.1 c (q + 1))), some (.int (nI (cutF (S_ S a).1.2.1 c (q + 1)))), some (.int (nI (4 ^ (q + 1)))), some (.int (nI (q + 1 + 1))), some (.int (nI (cutF (S_ S a).1.2.1 c (q + 1 + 1)))), some (.int (nI (v))), some (.int (nI (b)))] [] 77 := by
                intro b
                induction b with
                | zero =>
                  intro v hb hv80 hvl e
                  have e2 : v = fpu (S_ S a).1.2.1 (q + 1 + 1) (cutF (S_ S a).1.2.1 c (q + 1 + 1)) := e
                  have hle := fpu_le (S_ S a).1.2.1 c (q + 1 + 1)
                  have hlo := hold_lo ((S_ S a).1.2.1 (q + 1 + 1)) (cutF (S_ S a).1.2.1 c (q + 1))
                  rw [show hold ((S_ S a).1.2.1 (q + 1 + 1)) (cutF (S_ S a).1.2.1 c (q + 1)) = cutF (S_ S a).1.2.1 c (q + 1 + 1) from rfl] at hlo
                  refine g_ld C d_Mod_probes_77 rfl ?_
                  refine g_iconst (v := nI 1) C d_Mod_probes_79 rfl ?_
                  refine g_icmp_lt C 100 d_Mod_probes_80 (by decide) (by first | exact nI_toInt (by omega) | rfl) (by first | exact nI_toInt (by omega) | rfl) (fun b80 => ?_) (fun b80 => ?_)
                  · refine g_ldn C d_Mod_probes_100 rfl ?_
                    refine g_ld C d_Mod_probes_101 rfl ?_
                    refine g_aldn C d_Mod_probes_103 rfl ?_
                    refine g_ldn C d_Mod_probes_104 rfl ?_
                    refine g_ld C d_Mod_probes_105 rfl ?_
                    refine g_ld C d_Mod_probes_107 rfl ?_
                    refine g_callV (ci := kMod) C d_Mod_probes_109 cw_Mod_112 sl_Mod_before (c_Mod_before X.1 w0 w m R S.length a (q + 1 + 1) ((S_ S a).1.2.1 (q + 1 + 1)) (by omega) (by omega) (by omega) (hok _) (r80 _) hrow hR (cutF (S_ S a).1.2.1 c (q + 1 + 1)) hnl) rfl hR.2.1 (As := [.int (nI a), .int (nI (q + 1 + 1)), .int (nI (cutF (S_ S a).1.2.1 c (q + 1 + 1)))]) rfl rfl rfl (Nat.le_of_ble_eq_true rfl) ⟨rfl, rfl, by decide, by decide⟩ ⟨by decide, by decide⟩ (kI (fun r w3 h3 => ?_))
                    rw [h3.1, h3.2]
                    first | refine g_subN C d_Mod_probes_112 (by omega) ?_ | refine g_sub C d_Mod_probes_112 ?_
                    refine g_ldn C d_Mod_probes_113 rfl ?_
                    refine g_ld C d_Mod_probes_114 rfl ?_
                    first | refine g_subN C d_Mod_probes_116 (by omega) ?_ | refine g_sub C d_Mod_probes_116 ?_
                    refine g_ld C d_Mod_probes_117 rfl ?_
                    refine g_divN C d_Mod_probes_119 (by omega) hpw.2 (by omega) ?_
                    refine g_sub C d_Mod_probes_120 ?_
                    refine g_add C d_Mod_probes_121 ?_
                    rw [e2]
                    refine g_stn C [_, _, _, _, _, _, _, _, _, _] d_Mod_probes_122 (Nat.le_of_ble_eq_true rfl) rfl ?_
                    refine g_ld C d_Mod_probes_123 rfl ?_
                    refine g_st C [_, _, _, _, _, _, _, _, _, _] d_Mod_probes_125 (Nat.le_of_ble_eq_true rfl) rfl ?_
                    refine g_incN C [_, _, _, _, _, _, _, _, _, _] d_Mod_probes_127 rfl rfl ?_
                    refine g_goto C 41 d_Mod_probes_130 (by decide) ?_
                    refine V.le (lvle.keep (lvle.keep (lvle.keep (lvle.keep (lvle.keep (lvle.keep (lvle.keep (lvle.drop (lvle.drop (lvle.drop lvle.nil)))))))))) ?_
                    exact ih (q + 1) (by omega) (by omega)
                  · exfalso; omega
                | succ b ihb =>
                  intro v hb hv80 hvl e
                  have hrb := hV.2.2.2 (b + 1) (by omega) (by omega)
                  have hsb := hsum (b + 1) (by omega) (by omega)
                  have hpl := ps_le_sum ((S_ S a).1.2.1 (b + 1)) v
                  rw [Nat.add_sub_cancel] at hsb
                  refine g_ld C d_Mod_probes_77 rfl ?_
                  refine g_iconst (v := nI 1) C d_Mod_probes_79 rfl ?_
                  refine g_icmp_lt C 100 d_Mod_probes_80 (by decide) (by first | exact nI_toInt (by omega) | rfl) (by first | exact nI_toInt (by omega) | rfl) (fun b80 => ?_) (fun b80 => ?_)
                  · exfalso; omega
                  · refine g_aldn C d_Mod_probes_83 rfl ?_
                    refine g_ldn C d_Mod_probes_84 rfl ?_
                    refine g_ld C d_Mod_probes_85 rfl ?_
                    refine g_ld C d_Mod_probes_87 rfl ?_
                    refine g_callV (ci := kMod) C d_Mod_probes_89 cw_Mod_112 sl_Mod_before (c_Mod_before X.1 w0 w m R S.length a (b + 1) ((S_ S a).1.2.1 (b + 1)) (by omega) (by omega) (by omega) (hok _) (r80 _) hrb hR v (hvl (by omega))) rfl hR.2.1 (As := [.int (nI a), .int (nI (b + 1)), .int (nI v)]) rfl rfl rfl (Nat.le_of_ble_eq_true rfl) ⟨rfl, rfl, by decide, by decide⟩ ⟨by decide, by decide⟩ (kI (fun r w3 h3 => ?_))
                    rw [h3.1, h3.2]
                    refine g_st C [_, _, _, _, _, _, _, _, _, _] d_Mod_probes_92 (Nat.le_of_ble_eq_true rfl) rfl ?_
                    refine g_decN C [_, _, _, _, _, _, _, _, _, _] d_Mod_probes_94 rfl (by omega) rfl ?_
                    refine g_goto C 77 d_Mod_probes_97 (by decide) ?_
                    refine ihb (ps ((S_ S a).1.2.1 (b + 1)) v) (by omega) ?_ (fun z => ?_) (by rw [← e]; rfl)
                    · have := wf_cn_le hwf b (by omega); omega
                    · rw [← cn_p (S_ S a).1 z]; omega
              refine g_st C [_, _, _, _, _, _, _, _, _, _] d_Mod_probes_67 (Nat.le_of_ble_eq_true rfl) rfl ?_
              refine g_ld C d_Mod_probes_69 rfl ?_
              refine g_st C [_, _, _, _, _, _, _, _, _, _] d_Mod_probes_71 (Nat.le_of_ble_eq_true rfl) rfl ?_
              refine g_ld C d_Mod_probes_73 rfl ?_
              refine g_st C [_, _, _, _, _, _, _, _, _, _] d_Mod_probes_75 (Nat.le_of_ble_eq_true rfl) rfl ?_
              exact down (q + 1 + 1) (cutF (S_ S a).1.2.1 c (q + 1 + 1)) (Nat.le_refl _) g80 (fun _ => hnl) rfl
          have hrow1 := hV.2.2.2 1 (by omega) (by omega)
          refine g_iconst (v := nI 0) C d_Mod_probes_24 rfl ?_
          refine g_stn C [_, _, _, _, _, _, _, _, _, _] d_Mod_probes_25 (Nat.le_of_ble_eq_true rfl) rfl ?_
          refine g_aldn C d_Mod_probes_26 rfl ?_
          refine g_ldn C d_Mod_probes_27 rfl ?_
          refine g_iconst (v := nI 1) C d_Mod_probes_28 rfl ?_
          refine g_ldn C d_Mod_probes_29 rfl ?_
          refine g_callV (ci := kMod) C d_Mod_probes_30 cw_Mod_115 sl_Mod_holding (c_Mod_holding X.1 w0 w m R S.length a 1 ((S_ S a).1.2.1 1) (by omega) (by omega) (by omega) (hok _) (r80 _) hrow1 hR c (lpl 0 hh1) (by omega)) rfl hR.2.1 (As := [.int (nI a), .int (nI 1), .int (nI c)]) rfl rfl rfl (Nat.le_of_ble_eq_true rfl) ⟨rfl, rfl, by decide, by decide⟩ ⟨by decide, by decide⟩ (kI (fun r w2 h2 => ?_))
          rw [h2.1, h2.2]
          refine g_st C [_, _, _, _, _, _, _, _, _, _] d_Mod_probes_33 (Nat.le_of_ble_eq_true rfl) rfl ?_
          refine g_iconst (v := nI 1) C d_Mod_probes_35 rfl ?_
          refine g_st C [_, _, _, _, _, _, _, _, _, _] d_Mod_probes_36 (Nat.le_of_ble_eq_true rfl) rfl ?_
          refine g_iconst (v := nI 2) C d_Mod_probes_38 rfl ?_
          refine g_st C [_, _, _, _, _, _, _, _, _, _] d_Mod_probes_39 (Nat.le_of_ble_eq_true rfl) rfl ?_
          exact loop 0 (by omega)
        · refine g_iconst (v := -1) C d_Mod_probes_22 rfl ?_
          exact g_iret C Rr d_Mod_probes_23 rfl (by decide) (by decide) ⟨_, rfl, rfl, by unfold sPrb; rw [if_neg (fun z => by have := z.2.2; rw [vT_N ha31] at this; omega)]⟩
  · refine g_callV (ci := kMod) C d_Mod_probes_2 cw_Mod_55 sl_Mod_there (c_Mod_there X.1 w0 w m R S v hk hR) rfl hR.2.1 (As := [.int (v)]) rfl rfl rfl (Nat.le_of_ble_eq_true rfl) ⟨rfl, rfl, by decide, by decide⟩ ⟨by decide, by decide⟩ (kI (fun r w2 h2 => ?_))
    rw [h2.1, h2.2, if_neg hv]
    refine g_if_eq C 22 d_Mod_probes_5 (by decide) (by first | exact nI_toInt (by omega) | rfl) (fun b5 => ?_) (fun b5 => ?_)
    · refine g_iconst (v := -1) C d_Mod_probes_22 rfl ?_
      exact g_iret C Rr d_Mod_probes_23 rfl (by decide) (by decide) ⟨_, rfl, rfl, by unfold sPrb; rw [if_neg (fun z => hv z.1)]⟩
    · exfalso; omega
