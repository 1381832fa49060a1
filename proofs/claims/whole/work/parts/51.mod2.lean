/-! THE REFERENCE: its tests; loading and storing a version. -/
def RefS (R : RA) (S : St) : Prop := okS S ∧ ∀ i, i < S.length → VerR R i (S_ S i).1 ∧ R 5 i = if (S_ S i).2 = true then nI 1 else nI 0
theorem RefS.fr {R R' : RA} {S : St} (h : RefS R S) (hF : ∀ k j, k < 6 → R' k j = R k j) : RefS R' S := ⟨h.1, fun i hi => ⟨(h.2 i hi).1.fr (fun k j hk => hF k j (by omega)), (hF _ _ (by omega)).trans (h.2 i hi).2⟩⟩
theorem RefS.wf {R : RA} {S : St} (h : RefS R S) {a : Nat} (ha : a < S.length) : wfT 4 (S_ S a).1 := h.1.2.2 _ (gd_mem ha)
set_option maxRecDepth 100000 in
set_option maxHeartbeats 4000000 in
theorem c_Mod_there (N : gN) (w0 w : gW) (m : Nat) (R : RA) (S : St) (v : Int32) (hk : S.length ≤ 40) (hR : RefW w0 w m R S.length) : CtN N y_Mod_there b_Mod_there 2 (some FieldType.boolean) (rmm 0 0 0 0) [.ref m, .int v] w (pI (fun r w' => w' = w ∧ r = if vOk S v then nI 1 else nI 0)) 0 0 := by
  refine ct_intro N [some (.ref m), some (.int v)] (by decide) rfl (Nat.le_of_ble_eq_true rfl) (by simp [Value.category]) ?_
  intro X hX C Rr
  rcases i32_sgn v with hv | ⟨a, ha, rfl⟩
  · refine g_ldn C d_Mod_there_0 rfl ?_
    refine g_if_lt C 16 d_Mod_there_1 (by decide) (by first | exact nI_toInt (by omega) | rfl) (fun b1 => ?_) (fun b1 => ?_)
    · refine g_iconst (v := nI 0) C d_Mod_there_16 rfl ?_
      exact g_iret C Rr d_Mod_there_17 rfl (by decide) (by decide) ⟨_, rfl, rfl, (if_neg (vOk_n hv)).symm⟩
    · exfalso; omega
  · refine g_ldn C d_Mod_there_0 rfl ?_
    refine g_if_lt C 16 d_Mod_there_1 (by decide) (by first | exact nI_toInt (by omega) | rfl) (fun b1 => ?_) (fun b1 => ?_)
    · exfalso; omega
    · refine g_ldn C d_Mod_there_4 rfl ?_
      refine g_aldn C d_Mod_there_5 rfl ?_
      refine r_f6 C d_Mod_there_6 hR ?_
      refine g_icmp_ge C 16 d_Mod_there_9 (by decide) (by first | exact nI_toInt (by omega) | rfl) (by first | exact nI_toInt (by omega) | rfl) (fun b9 => ?_) (fun b9 => ?_)
      · refine g_iconst (v := nI 0) C d_Mod_there_16 rfl ?_
        exact g_iret C Rr d_Mod_there_17 rfl (by decide) (by decide) ⟨_, rfl, rfl, (if_neg (fun z => by have := (vOk_N ha).mp z; omega)).symm⟩
      · refine g_iconst (v := nI 1) C d_Mod_there_12 rfl ?_
        refine g_goto C 17 d_Mod_there_13 (by decide) ?_
        exact g_iret C Rr d_Mod_there_17 rfl (by decide) (by decide) ⟨_, rfl, rfl, (if_pos ((vOk_N ha).mpr (by omega))).symm⟩
set_option maxRecDepth 100000 in
set_option maxHeartbeats 4000000 in
theorem c_Mod_frozen (N : gN) (w0 w : gW) (m : Nat) (R : RA) (S : St) (v : Int32) (hS : RefS R S) (hR : RefW w0 w m R S.length) : CtN N y_Mod_frozen b_Mod_frozen 2 (some FieldType.boolean) (rmm 1 21 0 0) [.ref m, .int v] w (pI (fun r w' => w' = w ∧ r = if frz S v then nI 1 else nI 0)) 0 0 := by
  refine ct_intro N [some (.ref m), some (.int v)] (by decide) rfl (Nat.le_of_ble_eq_true rfl) (by simp [Value.category]) ?_
  intro X hX C Rr
  have hk := hS.1.2.1
  refine g_aldn C d_Mod_frozen_0 rfl ?_
  refine g_ldn C d_Mod_frozen_1 rfl ?_
  by_cases hv : vOk S v
  · refine g_callV (ci := kMod) C d_Mod_frozen_2 cw_Mod_55 sl_Mod_there (c_Mod_there X.1 w0 w m R S v hk hR) rfl hR.2.1 (As := [.int (v)]) rfl rfl rfl (Nat.le_of_ble_eq_true rfl) ⟨rfl, rfl, by decide, by decide⟩ ⟨by decide, by decide⟩ (kI (fun r w2 h2 => ?_))
    rw [h2.1, h2.2, if_pos hv]
    refine g_if_eq C 21 d_Mod_frozen_5 (by decide) (by first | exact nI_toInt (by omega) | rfl) (fun b5 => ?_) (fun b5 => ?_)
    · exfalso; omega
    · obtain ⟨a, ha, rfl⟩ := vOk_ex hv
      have ha31 : a < 2 ^ 31 := by omega
      refine g_aldn C d_Mod_frozen_8 rfl ?_
      refine r_f5 C d_Mod_frozen_9 hR ?_
      refine g_ldn C d_Mod_frozen_12 rfl ?_
      refine r_ld5 C d_Mod_frozen_13 hR (by omega) (hS.2 a ha).2 ?_
      by_cases hb : (S_ S a).2 = true
      · rw [if_pos hb]
        refine g_if_ne C 21 d_Mod_frozen_14 (by decide) (by first | exact nI_toInt (by omega) | rfl) (fun b14 => ?_) (fun b14 => ?_)
        · refine g_iconst (v := nI 0) C d_Mod_frozen_21 rfl ?_
          exact g_iret C Rr d_Mod_frozen_22 rfl (by decide) (by decide) ⟨_, rfl, rfl, (if_neg (fun z => by have := z.2; rw [vO_N ha31, hb] at this; cases this)).symm⟩
        · exfalso; omega
      · rw [if_neg hb]
        have hb : (S_ S a).2 = false := by cases h : (S_ S a).2 <;> simp_all
        refine g_if_ne C 21 d_Mod_frozen_14 (by decide) (by first | exact nI_toInt (by omega) | rfl) (fun b14 => ?_) (fun b14 => ?_)
        · exfalso; omega
        · refine g_iconst (v := nI 1) C d_Mod_frozen_17 rfl ?_
          refine g_goto C 22 d_Mod_frozen_18 (by decide) ?_
          exact g_iret C Rr d_Mod_frozen_22 rfl (by decide) (by decide) ⟨_, rfl, rfl, (if_pos ⟨hv, (vO_N ha31).trans hb⟩).symm⟩
  · refine g_callV (ci := kMod) C d_Mod_frozen_2 cw_Mod_55 sl_Mod_there (c_Mod_there X.1 w0 w m R S v hk hR) rfl hR.2.1 (As := [.int (v)]) rfl rfl rfl (Nat.le_of_ble_eq_true rfl) ⟨rfl, rfl, by decide, by decide⟩ ⟨by decide, by decide⟩ (kI (fun r w2 h2 => ?_))
    rw [h2.1, h2.2, if_neg hv]
    refine g_if_eq C 21 d_Mod_frozen_5 (by decide) (by first | exact nI_toInt (by omega) | rfl) (fun b5 => ?_) (fun b5 => ?_)
    · refine g_iconst (v := nI 0) C d_Mod_frozen_21 rfl ?_
      exact g_iret C Rr d_Mod_frozen_22 rfl (by decide) (by decide) ⟨_, rfl, rfl, (if_neg (fun z => hv z.1)).symm⟩
    · exfalso; omega
set_option maxRecDepth 100000 in
set_option maxHeartbeats 4000000 in
theorem c_Mod_load (N : gN) (w0 w : gW) (m : Nat) (R : RA) (md a v : Nat) (T : Tr) (ha : a < 3) (hv : v < 40) (hw : wfT 4 T) (hR : RefW w0 w m R md) (hV : VerR R v T) : CtN N y_Mod_load b_Mod_load 6 none (rmm 1 22 0 0) [.ref m, .int (nI a), .int (nI v)] w (pV (fun w' => ∃ R', RefW w0 w' m R' md ∧ WkR R' a T ∧ FrW a R R')) 0 0 := by
  refine ct_intro N [some (.ref m), some (.int (nI a)), some (.int (nI v)), none, none, none] (by decide) rfl (Nat.le_of_ble_eq_true rfl) (by simp [Value.category]) ?_
  intro X hX C Rr
  have h80 := hw.1
  have h4 := hw.2.1
  have r80 := wf_len hw
  have loop2 : ∀ l, l ≤ 7 → ∀ w1 R1, 1 ≤ l → RefW w0 w1 m R1 md → FrW a R R1 → WE R1 a T.1 → R1 10 a = nI T.2.2 → (∀ q, 1 ≤ q → q < l → WRow R1 a q (T.2.1 q)) → V X w1 0 0 [some (.ref m), some (.int (nI a)), some (.int (nI v)), some (.int (nI l)), none, none] [] 66 := by
    refine upto _ (fun l hl ih w R1 h1 hR hF hE hH hQ => ?_)
    refine g_ldn C d_Mod_load_66 rfl ?_
    refine g_bipush (v := nI 6) C d_Mod_load_67 (by decide) ?_
    refine g_icmp_gt C 160 d_Mod_load_69 (by decide) (by first | exact nI_toInt (by omega) | rfl) (by first | exact nI_toInt (by omega) | rfl) (fun b69 => ?_) (fun b69 => ?_)
    · exact g_vret C Rr d_Mod_load_160 (by decide) (by decide) ⟨rfl, _, hR, ⟨hE, hH, fun q q1 q6 => hQ q q1 (by omega)⟩, hF⟩
    · have body : V X w 0 0 [some (.ref m), some (.int (nI a)), some (.int (nI v)), some (.int (nI l)), none, none] [.int (nI (T.2.1 l).length)] 91 := by
        have rl := r80 l
        have inner : ∀ c, c ≤ (T.2.1 l).length → ∀ w1 R2, RefW w0 w1 m R2 md → FrL a l R1 R2 → R2 8 (8 * a + l) = nI (T.2.1 l).length → (∀ q, q < c → R2 7 (480 * a + 80 * (l - 1) + q) = nI (gd 0 (T.2.1 l) q)) → V X w1 0 0 [some (.ref m), some (.int (nI a)), some (.int (nI v)), some (.int (nI l)), some (.int (nI (T.2.1 l).length)), some (.int (nI c))] [] 109 := by
          refine upto _ (fun c hc ihc w R2 hR hF2 h8 h7 => ?_)
          refine g_ld C d_Mod_load_109 rfl ?_
          refine g_ld C d_Mod_load_111 rfl ?_
          refine g_icmp_ge C 154 d_Mod_load_113 (by decide) (by first | exact nI_toInt (by omega) | rfl) (by first | exact nI_toInt (by omega) | rfl) (fun b113 => ?_) (fun b113 => ?_)
          · refine g_incN C [_, _, _, _, _, _] d_Mod_load_154 rfl rfl ?_
            refine g_goto C 66 d_Mod_load_157 (by decide) ?_
            refine V.le (lvle.keep (lvle.keep (lvle.keep (lvle.keep (lvle.drop (lvle.drop lvle.nil)))))) ?_
            refine ih (l + 1) (by omega) (by omega) w R2 (by omega) hR (hF.trans (hF2.w h1 (by omega))) (hE.frL hF2) ((hF2 _ _ (by unfold LA; omega)).trans hH) (fun q q1 q2 => ?_)
            by_cases e : q = l
            · subst e; exact ⟨h8, rl, fun b hb => h7 b (by omega)⟩
            · exact (hQ q q1 (by omega)).frL hF2 q1 (by omega) h1 (by omega) (by omega)
          · have l4 : l ≤ 4 := Classical.byContradiction (fun z => by have := hw.2.2.2.1 l (by omega); rw [this] at b113; simp at b113; omega)
            refine g_aldn C d_Mod_load_116 rfl ?_
            refine r_f8 C d_Mod_load_117 hR ?_
            refine g_ldn C d_Mod_load_120 rfl ?_
            refine g_ldn C d_Mod_load_121 rfl ?_
            refine g_ld C d_Mod_load_122 rfl ?_
            refine r_cell C d_Mod_load_124 (by omega) rfl (Nat.le_of_ble_eq_true rfl) (by decide) (by decide) (by decide) (by decide) ?_
            refine g_aldn C d_Mod_load_127 rfl ?_
            refine r_f1 C d_Mod_load_128 hR ?_
            refine g_sipush (v := nI 320) C d_Mod_load_131 (by decide) ?_
            refine g_ldn C d_Mod_load_134 rfl ?_
            first | refine g_mulN C d_Mod_load_135 ?_ | refine g_mul C d_Mod_load_135 ?_
            refine g_bipush (v := nI 80) C d_Mod_load_136 (by decide) ?_
            refine g_ldn C d_Mod_load_138 rfl ?_
            refine g_iconst (v := nI 1) C d_Mod_load_139 rfl ?_
            first | refine g_subN C d_Mod_load_140 (by omega) ?_ | refine g_sub C d_Mod_load_140 ?_
            first | refine g_mulN C d_Mod_load_141 ?_ | refine g_mul C d_Mod_load_141 ?_
            first | refine g_addN C d_Mod_load_142 ?_ | refine g_add C d_Mod_load_142 ?_
            refine g_ld C d_Mod_load_143 rfl ?_
            first | refine g_addN C d_Mod_load_145 ?_ | refine g_add C d_Mod_load_145 ?_
            refine r_ld1 C d_Mod_load_146 hR (by omega) (((hF2 _ _ (by unfold LA; omega)).trans (hF.ver _ _ (by omega))).trans ((hV.2.2.2 l h1 l4).2 c (by omega))) ?_
            refine r_st7 C d_Mod_load_147 hR (by omega) (fun w hR => ?_)
            refine g_incN C [_, _, _, _, _, _] d_Mod_load_148 rfl rfl ?_
            refine g_goto C 109 d_Mod_load_151 (by decide) ?_
            refine ihc (c + 1) (by omega) (by omega) _ _ hR (hF2.up (by unfold LA; omega)) ((rupn (by omega)).trans h8) (fun q hq => ?_)
            by_cases e : q = c
            · subst e; exact rups
            · exact (rupn (by omega)).trans (h7 q (by omega))
        refine g_st C [_, _, _, _, _, _] d_Mod_load_91 (Nat.le_of_ble_eq_true rfl) rfl ?_
        refine g_aldn C d_Mod_load_93 rfl ?_
        refine r_f9 C d_Mod_load_94 hR ?_
        refine g_bipush (v := nI 8) C d_Mod_load_97 (by decide) ?_
        refine g_ldn C d_Mod_load_99 rfl ?_
        first | refine g_mulN C d_Mod_load_100 ?_ | refine g_mul C d_Mod_load_100 ?_
        refine g_ldn C d_Mod_load_101 rfl ?_
        first | refine g_addN C d_Mod_load_102 ?_ | refine g_add C d_Mod_load_102 ?_
        refine g_ld C d_Mod_load_103 rfl ?_
        refine r_st8 C d_Mod_load_105 hR (by omega) (fun w hR => ?_)
        refine g_iconst (v := nI 0) C d_Mod_load_106 rfl ?_
        refine g_st C [_, _, _, _, _, _] d_Mod_load_107 (Nat.le_of_ble_eq_true rfl) rfl ?_
        exact inner 0 (by omega) _ _ hR (FrL.rf.up (by unfold LA; omega)) rups (fun q hq => by omega)
      refine g_ldn C d_Mod_load_72 rfl ?_
      refine g_iconst (v := nI 4) C d_Mod_load_73 rfl ?_
      refine g_icmp_gt C 90 d_Mod_load_74 (by decide) (by first | exact nI_toInt (by omega) | rfl) (by first | exact nI_toInt (by omega) | rfl) (fun b74 => ?_) (fun b74 => ?_)
      · have e0 := hw.2.2.2.1 l (by omega)
        refine g_iconst (v := nI 0) C d_Mod_load_90 rfl ?_
        rw [e0] at body
        exact body
      · refine g_aldn C d_Mod_load_77 rfl ?_
        refine r_f4 C d_Mod_load_78 hR ?_
        refine g_iconst (v := nI 5) C d_Mod_load_81 rfl ?_
        refine g_ldn C d_Mod_load_82 rfl ?_
        first | refine g_mulN C d_Mod_load_83 ?_ | refine g_mul C d_Mod_load_83 ?_
        refine g_ldn C d_Mod_load_84 rfl ?_
        first | refine g_addN C d_Mod_load_85 ?_ | refine g_add C d_Mod_load_85 ?_
        refine r_ld4 C d_Mod_load_86 hR (by omega) ((hF.ver _ _ (by omega)).trans (hV.2.2.2 l h1 (by omega)).1) ?_
        refine g_goto C 91 d_Mod_load_87 (by decide) ?_
        exact body
  have loop1 : ∀ c, c ≤ T.1.length → ∀ w1 R1, RefW w0 w1 m R1 md → FrW a R R1 → R1 9 a = nI T.1.length → R1 10 a = nI T.2.2 → (∀ q, q < c → R1 6 (80 * a + q) = gd 0 T.1 q) → V X w1 0 0 [some (.ref m), some (.int (nI a)), some (.int (nI v)), some (.int (nI c)), none, none] [] 26 := by
    refine upto _ (fun c hc ih w R1 hR hF h9 hH h6 => ?_)
    refine g_ldn C d_Mod_load_26 rfl ?_
    refine g_aldn C d_Mod_load_27 rfl ?_
    refine r_f2 C d_Mod_load_28 hR ?_
    refine g_ldn C d_Mod_load_31 rfl ?_
    refine r_ld2 C d_Mod_load_32 hR (by omega) ((hF.ver _ _ (by omega)).trans hV.1) ?_
    refine g_icmp_ge C 64 d_Mod_load_33 (by decide) (by first | exact nI_toInt (by omega) | rfl) (by first | exact nI_toInt (by omega) | rfl) (fun b33 => ?_) (fun b33 => ?_)
    · refine g_iconst (v := nI 1) C d_Mod_load_64 rfl ?_
      refine g_stn C [_, _, _, _, _, _] d_Mod_load_65 (Nat.le_of_ble_eq_true rfl) rfl ?_
      exact loop2 1 (by omega) w R1 (by omega) hR hF ⟨h9, h80, fun q hq => h6 q (by omega)⟩ hH (fun q q1 q2 => by omega)
    · refine g_aldn C d_Mod_load_36 rfl ?_
      refine r_f7 C d_Mod_load_37 hR ?_
      refine g_bipush (v := nI 80) C d_Mod_load_40 (by decide) ?_
      refine g_ldn C d_Mod_load_42 rfl ?_
      first | refine g_mulN C d_Mod_load_43 ?_ | refine g_mul C d_Mod_load_43 ?_
      refine g_ldn C d_Mod_load_44 rfl ?_
      first | refine g_addN C d_Mod_load_45 ?_ | refine g_add C d_Mod_load_45 ?_
      refine g_aldn C d_Mod_load_46 rfl ?_
      refine r_f0 C d_Mod_load_47 hR ?_
      refine g_bipush (v := nI 80) C d_Mod_load_50 (by decide) ?_
      refine g_ldn C d_Mod_load_52 rfl ?_
      first | refine g_mulN C d_Mod_load_53 ?_ | refine g_mul C d_Mod_load_53 ?_
      refine g_ldn C d_Mod_load_54 rfl ?_
      first | refine g_addN C d_Mod_load_55 ?_ | refine g_add C d_Mod_load_55 ?_
      refine r_ld0 C d_Mod_load_56 hR (by omega) ((hF.ver _ _ (by omega)).trans (hV.2.1 c (by omega))) ?_
      refine r_st6 C d_Mod_load_57 hR (by omega) (fun w hR => ?_)
      refine g_incN C [_, _, _, _, _, _] d_Mod_load_58 rfl rfl ?_
      refine g_goto C 26 d_Mod_load_61 (by decide) ?_
      refine ih (c + 1) (by omega) (by omega) _ _ hR (hF.up (by unfold WA; omega)) ((rupn (by omega)).trans h9) ((rupn (by omega)).trans hH) (fun q hq => ?_)
      by_cases e : q = c
      · subst e; exact rups
      · exact (rupn (by omega)).trans (h6 q (by omega))
  refine g_aldn C d_Mod_load_0 rfl ?_
  refine r_f10 C d_Mod_load_1 hR ?_
  refine g_ldn C d_Mod_load_4 rfl ?_
  refine g_aldn C d_Mod_load_5 rfl ?_
  refine r_f2 C d_Mod_load_6 hR ?_
  refine g_ldn C d_Mod_load_9 rfl ?_
  refine r_ld2 C d_Mod_load_10 hR (by omega) hV.1 ?_
  refine r_st9 C d_Mod_load_11 hR (by omega) (fun w hR => ?_)
  refine g_aldn C d_Mod_load_12 rfl ?_
  refine r_f11 C d_Mod_load_13 hR ?_
  refine g_ldn C d_Mod_load_16 rfl ?_
  refine g_aldn C d_Mod_load_17 rfl ?_
  refine r_f3 C d_Mod_load_18 hR ?_
  refine g_ldn C d_Mod_load_21 rfl ?_
  refine r_ld3 C d_Mod_load_22 hR (by omega) ((rupn (by omega)).trans hV.2.2.1) ?_
  refine r_st10 C d_Mod_load_23 hR (by omega) (fun w hR => ?_)
  refine g_iconst (v := nI 0) C d_Mod_load_24 rfl ?_
  refine g_stn C [_, _, _, _, _, _] d_Mod_load_25 (Nat.le_of_ble_eq_true rfl) rfl ?_
  exact loop1 0 (by omega) _ _ hR ((FrW.rf.up (by unfold WA; omega)).up (by unfold WA; omega)) ((rupn (by omega)).trans rups) rups (fun q hq => by omega)
def VA (v k j : Nat) : Prop := (k = 0 ∧ 80 * v ≤ j ∧ j < 80 * v + 80) ∨ (k = 1 ∧ 320 * v ≤ j ∧ j < 320 * v + 320) ∨ (k = 2 ∧ j = v) ∨ (k = 3 ∧ j = v) ∨ (k = 4 ∧ 5 * v ≤ j ∧ j < 5 * v + 5)
def FrV (v : Nat) (R R' : RA) : Prop := ∀ k j, ¬ VA v k j → R' k j = R k j
theorem FrV.rf {v : Nat} {R : RA} : FrV v R R := fun _ _ _ => rfl
theorem FrV.trans {a : Nat} {R R1 R2 : RA} (h1 : FrV a R R1) (h2 : FrV a R1 R2) : FrV a R R2 := fun k j h => (h2 k j h).trans (h1 k j h)
theorem FrV.up {v k j : Nat} {R R1 : RA} {x : Int32} (h1 : FrV v R R1) (h : VA v k j) : FrV v R (rup R1 k j x) := fun k' j' h' => (rupn (fun z => h' (by rw [z.1, z.2]; exact h))).trans (h1 k' j' h')
theorem FrV.hi {v : Nat} {R R' : RA} (h : FrV v R R') : ∀ k j, 5 ≤ k → R' k j = R k j := fun k j hk => h k j (by unfold VA; omega)
theorem VRow.fr {R R' : RA} {v l : Nat} {Q : List Nat} (h : VRow R v l Q) (hl : Q.length ≤ 80) (h4 : R' 4 (5 * v + l) = R 4 (5 * v + l)) (h1 : ∀ j, j < 80 → R' 1 (320 * v + 80 * (l - 1) + j) = R 1 (320 * v + 80 * (l - 1) + j)) : VRow R' v l Q :=
  ⟨h4.trans h.1, fun j hj => (h1 j (by omega)).trans (h.2 j hj)⟩
theorem VerR.frV {R R' : RA} {u v : Nat} {T : Tr} (h : VerR R u T) (hF : FrV v R R') (hd : u ≠ v) (hw : wfT 4 T) : VerR R' u T := by
  obtain ⟨h1, h2, h3, h4⟩ := h
  have l80 := hw.1
  exact ⟨(hF _ _ (by unfold VA; omega)).trans h1, fun i hi => (hF _ _ (by unfold VA; omega)).trans (h2 i hi), (hF _ _ (by unfold VA; omega)).trans h3, fun l l1 l4 => (h4 l l1 l4).fr (wf_len hw l) (hF _ _ (by unfold VA; omega)) (fun j hj => hF _ _ (by unfold VA; omega))⟩
theorem nI_byte {q : Nat} (h : q ≤ 4) : vp_nar .byte (nI q).toInt8.toInt32 = nI q := by
  rcases (show q = 0 ∨ q = 1 ∨ q = 2 ∨ q = 3 ∨ q = 4 by omega) with rfl | rfl | rfl | rfl | rfl <;> decide
set_option maxRecDepth 100000 in
set_option maxHeartbeats 4000000 in
theorem c_Mod_store (N : gN) (w0 w : gW) (m : Nat) (R : RA) (md a v : Nat) (T : Tr) (ha : a < 3) (hv : v < 40) (hw : wfT 4 T) (hR : RefW w0 w m R md) (hW : WkR R a T) : CtN N y_Mod_store b_Mod_store 6 none (rmm 1 22 0 0) [.ref m, .int (nI a), .int (nI v)] w (pV (fun w' => ∃ R', RefW w0 w' m R' md ∧ VerR R' v T ∧ FrV v R R')) 0 0 := by
  refine ct_intro N [some (.ref m), some (.int (nI a)), some (.int (nI v)), none, none, none] (by decide) rfl (Nat.le_of_ble_eq_true rfl) (by simp [Value.category]) ?_
  intro X hX C Rr
  have h80 := hw.1
  have h4 := hw.2.1
  have r80 := wf_len hw
  have loop2 : ∀ l, l ≤ 5 → ∀ w1 R1, 1 ≤ l → RefW w0 w1 m R1 md → FrV v R R1 → R1 2 v = nI T.1.length → (∀ i, i < T.1.length → R1 0 (80 * v + i) = gd 0 T.1 i) → R1 3 v = nI T.2.2 → (∀ q, 1 ≤ q → q < l → VRow R1 v q (T.2.1 q)) → V X w1 0 0 [some (.ref m), some (.int (nI a)), some (.int (nI v)), some (.int (nI l)), none, none] [] 66 := by
    refine upto _ (fun l hl ih w R1 h1 hR hF hE hE2 hH hQ => ?_)
    refine g_ldn C d_Mod_store_66 rfl ?_
    refine g_iconst (v := nI 4) C d_Mod_store_67 rfl ?_
    refine g_icmp_gt C 151 d_Mod_store_68 (by decide) (by first | exact nI_toInt (by omega) | rfl) (by first | exact nI_toInt (by omega) | rfl) (fun b68 => ?_) (fun b68 => ?_)
    · exact g_vret C Rr d_Mod_store_151 (by decide) (by decide) ⟨rfl, _, hR, ⟨hE, hE2, hH, fun q q1 q6 => hQ q q1 (by omega)⟩, hF⟩
    · have rl := r80 l
      have hrow := hW.2.2 l h1 (by omega)
      have inner : ∀ c, c ≤ (T.2.1 l).length → ∀ w1 R2, RefW w0 w1 m R2 md → (∀ k j, ¬ (k = 1 ∧ 320 * v + 80 * (l - 1) ≤ j ∧ j < 320 * v + 80 * (l - 1) + 80) → ¬ (k = 4 ∧ j = 5 * v + l) → R2 k j = R1 k j) → R2 4 (5 * v + l) = nI (T.2.1 l).length → (∀ q, q < c → R2 1 (320 * v + 80 * (l - 1) + q) = nI (gd 0 (T.2.1 l) q)) → V X w1 0 0 [some (.ref m), some (.int (nI a)), some (.int (nI v)), some (.int (nI l)), some (.int (nI (T.2.1 l).length)), some (.int (nI c))] [] 99 := by
        refine upto _ (fun c hc ihc w R2 hR hF2 h8 h7 => ?_)
        refine g_ld C d_Mod_store_99 rfl ?_
        refine g_ld C d_Mod_store_101 rfl ?_
        refine g_icmp_ge C 145 d_Mod_store_103 (by decide) (by first | exact nI_toInt (by omega) | rfl) (by first | exact nI_toInt (by omega) | rfl) (fun b103 => ?_) (fun b103 => ?_)
        · refine g_incN C [_, _, _, _, _, _] d_Mod_store_145 rfl rfl ?_
          refine g_goto C 66 d_Mod_store_148 (by decide) ?_
          refine V.le (lvle.keep (lvle.keep (lvle.keep (lvle.keep (lvle.drop (lvle.drop lvle.nil)))))) ?_
          refine ih (l + 1) (by omega) (by omega) w R2 (by omega) hR (fun k j hn => (hF2 k j (fun z => hn (by unfold VA; omega)) (fun z => hn (by unfold VA; omega))).trans (hF k j hn)) ((hF2 _ _ (by omega) (by omega)).trans hE) (fun i hi => (hF2 _ _ (by omega) (by omega)).trans (hE2 i hi)) ((hF2 _ _ (by omega) (by omega)).trans hH) (fun q q1 q2 => ?_)
          by_cases e : q = l
          · subst e; exact ⟨h8, fun b hb => h7 b (by omega)⟩
          · exact (hQ q q1 (by omega)).fr (r80 q) (hF2 _ _ (by omega) (by omega)) (fun j hj => hF2 _ _ (by omega) (by omega))
        · have l4 : l ≤ T.2.2 := Classical.byContradiction (fun z => by have := hw.2.2.2.1 l (by omega); rw [this] at b103; simp at b103; omega)
          have q4 : gd 0 (T.2.1 l) c ≤ 4 := ((hw.2.2.2.2.1 l h1 l4).1 _ (gd_mem (by omega))).2
          refine g_aldn C d_Mod_store_106 rfl ?_
          refine r_f1 C d_Mod_store_107 hR ?_
          refine g_sipush (v := nI 320) C d_Mod_store_110 (by decide) ?_
          refine g_ldn C d_Mod_store_113 rfl ?_
          first | refine g_mulN C d_Mod_store_114 ?_ | refine g_mul C d_Mod_store_114 ?_
          refine g_bipush (v := nI 80) C d_Mod_store_115 (by decide) ?_
          refine g_ldn C d_Mod_store_117 rfl ?_
          refine g_iconst (v := nI 1) C d_Mod_store_118 rfl ?_
          first | refine g_subN C d_Mod_store_119 (by omega) ?_ | refine g_sub C d_Mod_store_119 ?_
          first | refine g_mulN C d_Mod_store_120 ?_ | refine g_mul C d_Mod_store_120 ?_
          first | refine g_addN C d_Mod_store_121 ?_ | refine g_add C d_Mod_store_121 ?_
          refine g_ld C d_Mod_store_122 rfl ?_
          first | refine g_addN C d_Mod_store_124 ?_ | refine g_add C d_Mod_store_124 ?_
          refine g_aldn C d_Mod_store_125 rfl ?_
          refine r_f8 C d_Mod_store_126 hR ?_
          refine g_ldn C d_Mod_store_129 rfl ?_
          refine g_ldn C d_Mod_store_130 rfl ?_
          refine g_ld C d_Mod_store_131 rfl ?_
          refine r_cell C d_Mod_store_133 (by omega) rfl (Nat.le_of_ble_eq_true rfl) (by decide) (by decide) (by decide) (by decide) ?_
          refine r_ld7 C d_Mod_store_136 hR (by omega) (((hF2 _ _ (by omega) (by omega)).trans (hF.hi _ _ (by omega))).trans (hrow.2.2 c (by omega))) ?_
          refine g_i2b C d_Mod_store_137 ?_
          refine r_st1 C d_Mod_store_138 hR (by omega) (fun w hR => ?_)
          rw [nI_byte q4] at hR
          refine g_incN C [_, _, _, _, _, _] d_Mod_store_139 rfl rfl ?_
          refine g_goto C 99 d_Mod_store_142 (by decide) ?_
          refine ihc (c + 1) (by omega) (by omega) _ _ hR (fun k j n1 n2 => (rupn (by omega)).trans (hF2 k j n1 n2)) ((rupn (by omega)).trans h8) (fun q hq => ?_)
          by_cases e : q = c
          · subst e; exact rups
          · exact (rupn (by omega)).trans (h7 q (by omega))
      refine g_aldn C d_Mod_store_71 rfl ?_
      refine r_f9 C d_Mod_store_72 hR ?_
      refine g_bipush (v := nI 8) C d_Mod_store_75 (by decide) ?_
      refine g_ldn C d_Mod_store_77 rfl ?_
      first | refine g_mulN C d_Mod_store_78 ?_ | refine g_mul C d_Mod_store_78 ?_
      refine g_ldn C d_Mod_store_79 rfl ?_
      first | refine g_addN C d_Mod_store_80 ?_ | refine g_add C d_Mod_store_80 ?_
      refine r_ld8 C d_Mod_store_81 hR (by omega) ((hF.hi _ _ (by omega)).trans hrow.1) ?_
      refine g_st C [_, _, _, _, _, _] d_Mod_store_82 (Nat.le_of_ble_eq_true rfl) rfl ?_
      refine g_aldn C d_Mod_store_84 rfl ?_
      refine r_f4 C d_Mod_store_85 hR ?_
      refine g_iconst (v := nI 5) C d_Mod_store_88 rfl ?_
      refine g_ldn C d_Mod_store_89 rfl ?_
      first | refine g_mulN C d_Mod_store_90 ?_ | refine g_mul C d_Mod_store_90 ?_
      refine g_ldn C d_Mod_store_91 rfl ?_
      first | refine g_addN C d_Mod_store_92 ?_ | refine g_add C d_Mod_store_92 ?_
      refine g_ld C d_Mod_store_93 rfl ?_
      refine r_st4 C d_Mod_store_95 hR (by omega) (fun w hR => ?_)
      refine g_iconst (v := nI 0) C d_Mod_store_96 rfl ?_
      refine g_st C [_, _, _, _, _, _] d_Mod_store_97 (Nat.le_of_ble_eq_true rfl) rfl ?_
      exact inner 0 (by omega) _ _ hR (fun k j n1 n2 => rupn (by omega)) rups (fun q hq => by omega)
  have loop1 : ∀ c, c ≤ T.1.length → ∀ w1 R1, RefW w0 w1 m R1 md → FrV v R R1 → R1 2 v = nI T.1.length → R1 3 v = nI T.2.2 → (∀ q, q < c → R1 0 (80 * v + q) = gd 0 T.1 q) → V X w1 0 0 [some (.ref m), some (.int (nI a)), some (.int (nI v)), some (.int (nI c)), none, none] [] 26 := by
    refine upto _ (fun c hc ih w R1 hR hF h9 hH h6 => ?_)
    refine g_ldn C d_Mod_store_26 rfl ?_
    refine g_aldn C d_Mod_store_27 rfl ?_
    refine r_f10 C d_Mod_store_28 hR ?_
    refine g_ldn C d_Mod_store_31 rfl ?_
    refine r_ld9 C d_Mod_store_32 hR (by omega) ((hF.hi _ _ (by omega)).trans hW.1.1) ?_
    refine g_icmp_ge C 64 d_Mod_store_33 (by decide) (by first | exact nI_toInt (by omega) | rfl) (by first | exact nI_toInt (by omega) | rfl) (fun b33 => ?_) (fun b33 => ?_)
    · refine g_iconst (v := nI 1) C d_Mod_store_64 rfl ?_
      refine g_stn C [_, _, _, _, _, _] d_Mod_store_65 (Nat.le_of_ble_eq_true rfl) rfl ?_
      exact loop2 1 (by omega) w R1 (by omega) hR hF h9 (fun q hq => h6 q (by omega)) hH (fun q q1 q2 => by omega)
    · refine g_aldn C d_Mod_store_36 rfl ?_
      refine r_f0 C d_Mod_store_37 hR ?_
      refine g_bipush (v := nI 80) C d_Mod_store_40 (by decide) ?_
      refine g_ldn C d_Mod_store_42 rfl ?_
      first | refine g_mulN C d_Mod_store_43 ?_ | refine g_mul C d_Mod_store_43 ?_
      refine g_ldn C d_Mod_store_44 rfl ?_
      first | refine g_addN C d_Mod_store_45 ?_ | refine g_add C d_Mod_store_45 ?_
      refine g_aldn C d_Mod_store_46 rfl ?_
      refine r_f7 C d_Mod_store_47 hR ?_
      refine g_bipush (v := nI 80) C d_Mod_store_50 (by decide) ?_
      refine g_ldn C d_Mod_store_52 rfl ?_
      first | refine g_mulN C d_Mod_store_53 ?_ | refine g_mul C d_Mod_store_53 ?_
      refine g_ldn C d_Mod_store_54 rfl ?_
      first | refine g_addN C d_Mod_store_55 ?_ | refine g_add C d_Mod_store_55 ?_
      refine r_ld6 C d_Mod_store_56 hR (by omega) ((hF.hi _ _ (by omega)).trans (hW.1.2.2 c (by omega))) ?_
      refine r_st0 C d_Mod_store_57 hR (by omega) (fun w hR => ?_)
      refine g_incN C [_, _, _, _, _, _] d_Mod_store_58 rfl rfl ?_
      refine g_goto C 26 d_Mod_store_61 (by decide) ?_
      refine ih (c + 1) (by omega) (by omega) _ _ hR (hF.up (by unfold VA; omega)) ((rupn (by omega)).trans h9) ((rupn (by omega)).trans hH) (fun q hq => ?_)
      by_cases e : q = c
      · subst e; exact rups
      · exact (rupn (by omega)).trans (h6 q (by omega))
  refine g_aldn C d_Mod_store_0 rfl ?_
  refine r_f2 C d_Mod_store_1 hR ?_
  refine g_ldn C d_Mod_store_4 rfl ?_
  refine g_aldn C d_Mod_store_5 rfl ?_
  refine r_f10 C d_Mod_store_6 hR ?_
  refine g_ldn C d_Mod_store_9 rfl ?_
  refine r_ld9 C d_Mod_store_10 hR (by omega) hW.1.1 ?_
  refine r_st2 C d_Mod_store_11 hR (by omega) (fun w hR => ?_)
  refine g_aldn C d_Mod_store_12 rfl ?_
  refine r_f3 C d_Mod_store_13 hR ?_
  refine g_ldn C d_Mod_store_16 rfl ?_
  refine g_aldn C d_Mod_store_17 rfl ?_
  refine r_f11 C d_Mod_store_18 hR ?_
  refine g_ldn C d_Mod_store_21 rfl ?_
  refine r_ld10 C d_Mod_store_22 hR (by omega) ((rupn (by omega)).trans hW.2.1) ?_
  refine r_st3 C d_Mod_store_23 hR (by omega) (fun w hR => ?_)
  refine g_iconst (v := nI 0) C d_Mod_store_24 rfl ?_
  refine g_stn C [_, _, _, _, _, _] d_Mod_store_25 (Nat.le_of_ble_eq_true rfl) rfl ?_
  exact loop1 0 (by omega) _ _ hR ((FrV.rf.up (by unfold VA; omega)).up (by unfold VA; omega)) ((rupn (by omega)).trans rups) rups (fun q hq => by omega)
theorem RefW.mk {w0 w : gW} {m : Nat} {R : RA} {md : Nat} (h : RefW w0 w m R md) {md' : Nat} : RefW w0 (gset w m (.inr (kMod, [.ref (m + 1), .ref (m + 2), .ref (m + 3), .ref (m + 4), .ref (m + 5), .ref (m + 6), (.int (nI md')), .ref (m + 7), .ref (m + 8), .ref (m + 9), .ref (m + 10), .ref (m + 11), .ref (m + 12), .ref (m + 13)]))) m R md' := by
  refine ⟨h.1.trans (Sm.set (by omega) (by omega)), gset_self _ _ _, fun k hk => ?_⟩
  rw [gset_ne _ _ (by omega)]; exact h.2.2 k hk
def mkM (w0 : gW) (m : Nat) (q : Int32 × St) (r : Int32) (w' : gW) : Prop := r = q.1 ∧ ∃ R, RefW w0 w' m R q.2.length ∧ RefS R q.2
set_option maxRecDepth 100000 in
set_option maxHeartbeats 4000000 in
theorem c_Mod_newVersion (N : gN) (w0 w : gW) (m : Nat) (R : RA) (S : St) (a : Nat) (T : Tr) (ha : a < 3) (hn : S.length < 40) (hw : wfT 6 T) (hR : RefW w0 w m R S.length) (hS : RefS R S) (hW : WkR R a T) : CtN N y_Mod_newVersion b_Mod_newVersion 2 (some FieldType.int) (rmm 2 47 0 0) [.ref m, .int (nI a)] w (pI (fun r w' => mkM w0 m (sKeep S T false) r w')) 0 0 := by
  refine ct_intro N [some (.ref m), some (.int (nI a))] (by decide) rfl (Nat.le_of_ble_eq_true rfl) (by simp [Value.category]) ?_
  intro X hX C Rr
  have h6 := hw.2.1
  refine g_aldn C d_Mod_newVersion_0 rfl ?_
  refine r_f11 C d_Mod_newVersion_1 hR ?_
  refine g_ldn C d_Mod_newVersion_4 rfl ?_
  refine r_ld10 C d_Mod_newVersion_5 hR (by omega) hW.2.1 ?_
  refine g_iconst (v := nI 4) C d_Mod_newVersion_6 rfl ?_
  refine g_icmp_le C 13 d_Mod_newVersion_7 (by decide) (by first | exact nI_toInt (by omega) | rfl) (by first | exact nI_toInt (by omega) | rfl) (fun b7 => ?_) (fun b7 => ?_)
  · have hw4 : wfT 4 T := wf_low hw (by omega)
    refine g_aldn C d_Mod_newVersion_13 rfl ?_
    refine g_ldn C d_Mod_newVersion_14 rfl ?_
    refine g_aldn C d_Mod_newVersion_15 rfl ?_
    refine r_f6 C d_Mod_newVersion_16 hR ?_
    refine g_callV (ci := kMod) C d_Mod_newVersion_19 cw_Mod_63 sl_Mod_store (c_Mod_store X.1 w0 w m R S.length a S.length T ha hn hw4 hR hW) rfl hR.2.1 (As := [.int (nI a), .int (nI S.length)]) rfl rfl rfl (Nat.le_of_ble_eq_true rfl) ⟨rfl, rfl, by decide, by decide⟩ ⟨by decide, by decide⟩ (kV (fun w2 h2 => ?_))
    obtain ⟨R2, hR, hV, hF⟩ := h2
    refine g_aldn C d_Mod_newVersion_22 rfl ?_
    refine r_f5 C d_Mod_newVersion_23 hR ?_
    refine g_aldn C d_Mod_newVersion_26 rfl ?_
    refine r_f6 C d_Mod_newVersion_27 hR ?_
    refine g_iconst (v := nI 0) C d_Mod_newVersion_30 rfl ?_
    refine r_st5 C d_Mod_newVersion_31 hR (by omega) (fun w hR => ?_)
    have e0 : vp_nar .boolean (nI 0) = nI 0 := rfl
    rw [e0] at hR
    refine g_aldn C d_Mod_newVersion_32 rfl ?_
    refine g_dup C d_Mod_newVersion_33 rfl ?_
    refine r_f6 C d_Mod_newVersion_34 hR ?_
    refine g_iconst (v := nI 1) C d_Mod_newVersion_37 rfl ?_
    first | refine g_addN C d_Mod_newVersion_38 ?_ | refine g_add C d_Mod_newVersion_38 ?_
    refine g_put (fs' := [.ref (m + 1), .ref (m + 2), .ref (m + 3), .ref (m + 4), .ref (m + 5), .ref (m + 6), .int (nI (S.length + 1)), .ref (m + 7), .ref (m + 8), .ref (m + 9), .ref (m + 10), .ref (m + 11), .ref (m + 12), .ref (m + 13)]) C d_Mod_newVersion_39 fl_Mod_30 ft_Mod (ty := .int) ⟨_, _, _, rfl, rfl, by decide +kernel⟩ hR.2.1 rfl rfl (Nat.le_of_ble_eq_true rfl) rfl ?_
    have hRn := hR.mk (md' := S.length + 1)
    generalize gset w m _ = w3 at hRn ⊢
    refine g_aldn C d_Mod_newVersion_42 rfl ?_
    refine r_f6 C d_Mod_newVersion_43 hRn ?_
    refine g_iconst (v := nI 1) C d_Mod_newVersion_46 rfl ?_
    first | refine g_subN C d_Mod_newVersion_47 (by omega) ?_ | refine g_sub C d_Mod_newVersion_47 ?_
    have ek : sKeep S T false = (nI S.length, S ++ [(T, false)]) := by unfold sKeep; rw [if_neg (by omega)]
    have hl : (S ++ [(T, false)]).length = S.length + 1 := by simp
    refine g_iret C Rr d_Mod_newVersion_48 rfl (by decide) (by decide) ⟨_, rfl, by rw [ek]; rfl, _, by rw [ek]; show RefW _ _ _ _ (S ++ [(T, false)]).length; rw [hl]; exact hRn, ?_⟩
    rw [ek]
    refine ⟨⟨by show 1 ≤ (S ++ [(T, false)]).length; omega, by show (S ++ [(T, false)]).length ≤ 40; omega, fun q hq => ?_⟩, fun i hi => ?_⟩
    · rcases List.mem_append.mp hq with h | h
      · exact hS.1.2.2 q h
      · rw [List.mem_singleton.mp h]; exact hw4
    · have hi : i < (S ++ [(T, false)]).length := hi
      rw [show S_ (nI S.length, S ++ [(T, false)]).2 i = S_ (S ++ [(T, false)]) i from rfl]
      by_cases e : i = S.length
      · subst e
        rw [gd_last]
        exact ⟨hV.fr (fun k j hk => rupn (by omega)), rups⟩
      · rw [show S_ (S ++ [(T, false)]) i = S_ S i from gd_l (by omega)]
        exact ⟨((hS.2 i (by omega)).1.frV hF e (hS.wf (by omega))).fr (fun k j hk => rupn (by omega)), (rupn (by omega)).trans ((hF.hi _ _ (by omega)).trans (hS.2 i (by omega)).2)⟩
  · refine g_bipush (v := (-4)) C d_Mod_newVersion_10 (by decide) ?_
    exact g_iret C Rr d_Mod_newVersion_12 rfl (by decide) (by decide) ⟨_, rfl, by unfold sKeep; rw [if_pos (by omega)], R, by unfold sKeep; rw [if_pos (by omega)]; exact ⟨hR, hS⟩⟩
