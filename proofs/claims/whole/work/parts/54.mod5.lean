/-! THE REFERENCE: packing. -/
theorem nI_m4 (b : Nat) : nI (b + 4) + Int32.ofInt (-4) = nI b := by
  rw [show b + 4 = b + 1 + 1 + 1 + 1 by omega, show Int32.ofInt (-4) = (-1 : Int32) + -1 + -1 + -1 by decide, ← Int32.add_assoc, ← Int32.add_assoc, ← Int32.add_assoc, pk_m1, pk_m1, pk_m1, pk_m1]
set_option maxRecDepth 100000 in
set_option maxHeartbeats 4000000 in
theorem c_Mod_pack (N : gN) (w0 w : gW) (m : Nat) (R : RA) (md l s n : Nat) (Q : List Nat) (l1 : 1 ≤ l) (l6 : l ≤ 6) (hQ : okR Q) (hs : s + n ≤ Q.length) (hn : 1 ≤ n) (hR : RefW w0 w m R md) (hW : WRow R 2 l Q) : CtN N y_Mod_pack b_Mod_pack 10 (some FieldType.int) (rmm 2 47 0 0) [.ref m, .int (nI l), .int (nI s), .int (nI n)] w (pI (fun r w' => ∃ R', RefW w0 w' m R' md ∧ WRow R' 2 l (pack Q s n).1 ∧ FrL 2 l R R' ∧ r = nI (pack Q s n).2)) 0 0 := by
  refine ct_intro N [some (.ref m), some (.int (nI l)), some (.int (nI s)), some (.int (nI n)), none, none, none, none, none, none] (by decide) rfl (Nat.le_of_ble_eq_true rfl) (by simp [Value.category]) ?_
  intro X hX C Rr
  have hl80 := hW.2.1
  have hps1 := okR_ps hQ hl80 (s + n)
  have mo := ps_mono Q (a := s) (b := s + n) (by omega)
  have loop : ∀ mm, ∀ (w1 : gW) (R1 : RA) (Qc : List Nat), RefW w0 w1 m R1 md → FrL 2 l R R1 → WRow R1 2 l Qc → okR Qc → s + mm ≤ Qc.length → ps Qc (s + mm) - ps Qc s = ps Q (s + n) - ps Q s → 1 ≤ mm → mm ≤ n → pkN mm Qc s mm (ps Q (s + n) - ps Q s) = pack Q s n → V X w1 0 0 [some (.ref m), some (.int (nI l)), some (.int (nI s)), some (.int (nI n)), some (.int (nI (ps Q (s + n) - ps Q s))), some (.int (nI (mm))), none, none, none, none] [] 40 := by
    intro mm
    induction mm with
    | zero => intro w1 R1 Qc _ _ _ _ _ _ h1; omega
    | succ mm ih =>
      intro w R1 Qc hR hF hW hQc hsc htc h1 hmn hpk
      have l80 := hW.2.1
      refine g_ld C d_Mod_pack_40 rfl ?_
      refine g_ld C d_Mod_pack_42 rfl ?_
      refine g_iconst (v := nI 3) C d_Mod_pack_44 rfl ?_
      first | refine g_addN C d_Mod_pack_45 ?_ | refine g_add C d_Mod_pack_45 ?_
      refine g_iconst (v := nI 4) C d_Mod_pack_46 rfl ?_
      refine g_divN C d_Mod_pack_47 (by omega) (by omega) (by omega) ?_
      refine g_iconst (v := nI 1) C d_Mod_pack_48 rfl ?_
      first | refine g_addN C d_Mod_pack_49 ?_ | refine g_add C d_Mod_pack_49 ?_
      refine g_icmp_le C 196 d_Mod_pack_50 (by decide) (by first | exact nI_toInt (by omega) | rfl) (by first | exact nI_toInt (by omega) | rfl) (fun b50 => ?_) (fun b50 => ?_)
      · have e : pack Q s n = (Qc, mm + 1) := by
          rw [← hpk]
          simp only [pkN]
          rw [if_neg (by omega)]
        refine g_ld C d_Mod_pack_196 rfl ?_
        exact g_iret C Rr d_Mod_pack_198 rfl (by decide) (by decide) ⟨_, rfl, R1, hR, by rw [e]; exact hW, hF, by rw [e]⟩
      · have hc : (ps Qc (s + (mm + 1)) - ps Qc s + 3) / 4 + 1 < mm + 1 := by rw [htc]; omega
        obtain ⟨i0, j0, hij⟩ := pk_find hQc hsc rfl hc
        have hsum := pk1_sum hQc hij hsc
        obtain ⟨i1, rfl⟩ : ∃ i1, i0 = s + i1 := ⟨i0 - s, by have := hij.1; omega⟩
        obtain ⟨j1, rfl⟩ : ∃ j1, j0 = s + j1 := ⟨j0 - s, by have := hij.1; have := hij.2.1; omega⟩
        have hv := pkAt_val hQc hij hsc
        have hok := pk1_ok hQc hij hsc
        obtain ⟨a1, a2, a3, a4, a5, a6, a7⟩ := id hij
        rw [show s + j1 + 1 = s + (j1 + 1) from rfl] at a6 hv
        have hg : ∀ q, q < Qc.length → gd 0 Qc q ≤ 4 := fun q hq => (okR_gd hQc hq).2
        have hps := okR_ps hQc l80
        have hpt := hps (s + (j1 + 1))
        have hlo : i1 + 1 < j1 → 4 * (j1 - 1 - i1) < ps Qc (s + (j1 + 1)) - ps Qc (s + i1) := fun z => by
          have b1 := a7 (s + (j1 - 1)) (by omega) (by omega)
          rw [show s + (j1 - 1) + 1 = s + j1 by omega] at b1
          have b2 := ps_mono Qc (a := s + j1) (b := s + (j1 + 1)) (by omega)
          omega
        have aft : ∀ (w1 : gW) (R2 : RA), RefW w0 w1 m R2 md → FrL 2 l R R2 → R2 8 (8 * 2 + l) = nI Qc.length → (∀ q, q < Qc.length → R2 7 (480 * 2 + 80 * (l - 1) + q) = nI (if s + i1 ≤ q ∧ q < s + j1 then (if q + 1 < s + j1 then 4 else (ps Qc (s + (j1 + 1)) - ps Qc (s + i1)) - 4 * (j1 - 1 - i1)) else gd 0 Qc q)) → V X w1 0 0 [some (.ref m), some (.int (nI l)), some (.int (nI s)), some (.int (nI n)), some (.int (nI (ps Q (s + n) - ps Q s))), some (.int (nI (mm + 1))), some (.int (nI (i1))), some (.int (nI (j1))), none, some (.int (nI (j1)))] [] 138 := by
          intro w R2 hR hF h8 h7
          refine g_ld C d_Mod_pack_138 rfl ?_
          refine g_ld C d_Mod_pack_140 rfl ?_
          refine g_icmp_ge C 180 d_Mod_pack_142 (by decide) (by first | exact nI_toInt (by omega) | rfl) (by first | exact nI_toInt (by omega) | rfl) (fun b142 => ?_) (fun b142 => ?_)
          · refine g_aldn C d_Mod_pack_180 rfl ?_
            refine g_iconst (v := nI 2) C d_Mod_pack_181 rfl ?_
            refine g_ldn C d_Mod_pack_182 rfl ?_
            refine g_ldn C d_Mod_pack_183 rfl ?_
            refine g_ld C d_Mod_pack_184 rfl ?_
            first | refine g_addN C d_Mod_pack_186 ?_ | refine g_add C d_Mod_pack_186 ?_
            have hM : WRow R2 2 l ((List.range Qc.length).map (fun q => if s + i1 ≤ q ∧ q < s + j1 then (if q + 1 < s + j1 then 4 else (ps Qc (s + (j1 + 1)) - ps Qc (s + i1)) - 4 * (j1 - 1 - i1)) else gd 0 Qc q)) := ⟨by simp; exact h8, by simp; exact l80, fun q hq => by
              simp at hq
              rw [gd_range hq]; exact h7 q hq⟩
            refine g_callV (ci := kMod) C d_Mod_pack_187 cw_Mod_75 sl_Mod_leave (c_Mod_leave X.1 w0 w m R2 md 2 l (s + j1) _ (by omega) l1 l6 (by simp; omega) hR hM) rfl hR.2.1 (As := [.int (nI 2), .int (nI l), .int (nI (s + j1))]) rfl rfl rfl (Nat.le_of_ble_eq_true rfl) ⟨rfl, rfl, by decide, by decide⟩ ⟨by decide, by decide⟩ (kV (fun w2 h2 => ?_))
            obtain ⟨R3, hR, hW3, hF3⟩ := h2
            have hpe : ((List.range Qc.length).map (fun q => if s + i1 ≤ q ∧ q < s + j1 then (if q + 1 < s + j1 then 4 else (ps Qc (s + (j1 + 1)) - ps Qc (s + i1)) - 4 * (j1 - 1 - i1)) else gd 0 Qc q)).eraseIdx (s + j1) = pk1 Qc s := by
              refine pk1_is hij hsc ?_ (fun q hq => ?_)
              · rw [List.length_eraseIdx, if_pos (by simp; omega)]; simp; omega
              · rw [List.length_eraseIdx, if_pos (by simp; omega)] at hq
                simp at hq
                rw [gd_erase]
                unfold pkG
                by_cases e1 : q < s + i1
                · rw [if_pos (by omega), if_pos e1, gd_range (by omega), if_neg (by omega)]
                · rw [if_neg e1]
                  by_cases e2 : q + 1 < s + j1
                  · rw [if_pos e2, if_pos (by omega), gd_range (by omega), if_pos (by omega), if_pos e2]
                  · rw [if_neg e2]
                    by_cases e3 : q + 1 = s + j1
                    · rw [if_pos e3, if_pos (by omega), gd_range (by omega), if_pos (by omega), if_neg e2, show s + j1 + 1 = s + (j1 + 1) from rfl, show s + j1 - 1 - (s + i1) = j1 - 1 - i1 by omega]
                    · rw [if_neg e3, if_neg (by omega), gd_range (by omega), if_neg (by omega)]
            rw [hpe] at hW3
            refine g_decN C [_, _, _, _, _, _, _, _, _, _] d_Mod_pack_190 rfl (by omega) rfl ?_
            refine g_goto C 40 d_Mod_pack_193 (by decide) ?_
            refine V.le (lvle.keep (lvle.keep (lvle.keep (lvle.keep (lvle.keep (lvle.keep (lvle.drop (lvle.drop (lvle.drop (lvle.drop lvle.nil)))))))))) ?_
            refine ih w2 R3 (pk1 Qc s) hR (hF.trans hF3) hW3 hok (by rw [pk1_len]; omega) ?_ (by omega) (by omega) ?_
            · have := hsum.2
              rw [Nat.add_sub_cancel] at this
              rw [this, htc]
            · rw [← hpk]
              simp only [pkN]
              rw [if_pos (by omega)]
              rfl
          · exfalso; omega
        have lpK : ∀ c, c ≤ j1 - 1 → ∀ (w1 : gW) (R2 : RA), i1 ≤ c → RefW w0 w1 m R2 md → FrL 2 l R R2 → R2 8 (8 * 2 + l) = nI Qc.length → (∀ q, q < Qc.length → R2 7 (480 * 2 + 80 * (l - 1) + q) = nI (if s + i1 ≤ q ∧ q < s + c then 4 else gd 0 Qc q)) → V X w1 0 0 [some (.ref m), some (.int (nI l)), some (.int (nI s)), some (.int (nI n)), some (.int (nI (ps Q (s + n) - ps Q s))), some (.int (nI (mm + 1))), some (.int (nI (i1))), some (.int (nI (j1))), some (.int (nI ((ps Qc (s + (j1 + 1)) - ps Qc (s + i1)) - 4 * (c - i1)))), some (.int (nI (c)))] [] 138 := by
          refine upto _ (fun c hc ihc w R2 ci hR hF h8 h7 => ?_)
          refine g_ld C d_Mod_pack_138 rfl ?_
          refine g_ld C d_Mod_pack_140 rfl ?_
          refine g_icmp_ge C 180 d_Mod_pack_142 (by decide) (by first | exact nI_toInt (by omega) | rfl) (by first | exact nI_toInt (by omega) | rfl) (fun b142 => ?_) (fun b142 => ?_)
          · exfalso; omega
          · refine g_aldn C d_Mod_pack_145 rfl ?_
            refine r_f8 C d_Mod_pack_146 hR ?_
            refine g_iconst (v := nI 2) C d_Mod_pack_149 rfl ?_
            refine g_ldn C d_Mod_pack_150 rfl ?_
            refine g_ldn C d_Mod_pack_151 rfl ?_
            refine g_ld C d_Mod_pack_152 rfl ?_
            first | refine g_addN C d_Mod_pack_154 ?_ | refine g_add C d_Mod_pack_154 ?_
            refine r_cell C d_Mod_pack_155 (by omega) rfl (Nat.le_of_ble_eq_true rfl) (by decide) (by decide) (by decide) (by decide) ?_
            refine g_ld C d_Mod_pack_158 rfl ?_
            refine g_iconst (v := nI 4) C d_Mod_pack_160 rfl ?_
            have bd : 4 * (c - i1) ≤ (ps Qc (s + (j1 + 1)) - ps Qc (s + i1)) := by
              by_cases z : i1 + 1 < j1
              · have := hlo z; omega
              · omega
            have body : ∀ y, y = (if c + 1 < j1 then 4 else (ps Qc (s + (j1 + 1)) - ps Qc (s + i1)) - 4 * (j1 - 1 - i1)) → V X w 0 0 [some (.ref m), some (.int (nI l)), some (.int (nI s)), some (.int (nI n)), some (.int (nI (ps Q (s + n) - ps Q s))), some (.int (nI (mm + 1))), some (.int (nI (i1))), some (.int (nI (j1))), some (.int (nI ((ps Qc (s + (j1 + 1)) - ps Qc (s + i1)) - 4 * (c - i1)))), some (.int (nI (c)))] [.int (nI y), .int (nI (480 * 2 + 80 * (l - 1) + (s + c))), .ref (m + 8)] 170 := by
              intro y hy
              refine r_st7 C d_Mod_pack_170 hR (by omega) (fun w hR => ?_)
              by_cases z : c + 1 < j1
              · rw [if_pos z] at hy
                have hz := hlo (by omega)
                refine g_iinc C [_, _, _, _, _, _, _, _, _, _] d_Mod_pack_171 rfl (v := nI ((ps Qc (s + (j1 + 1)) - ps Qc (s + i1)) - 4 * (c + 1 - i1))) ?_ rfl ?_
                · rw [show (ps Qc (s + (j1 + 1)) - ps Qc (s + i1)) - 4 * (c - i1) = ((ps Qc (s + (j1 + 1)) - ps Qc (s + i1)) - 4 * (c + 1 - i1)) + 4 by omega]; exact nI_m4 _
                refine g_incN C [_, _, _, _, _, _, _, _, _, _] d_Mod_pack_174 rfl rfl ?_
                refine g_goto C 138 d_Mod_pack_177 (by decide) ?_
                refine ihc (c + 1) (by omega) (by omega) _ _ (by omega) hR (hF.up (by unfold LA; omega)) ((rupn (by omega)).trans h8) (fun q hq => ?_)
                by_cases e1 : q = s + c
                · rw [e1, rups, if_pos (by omega), hy]
                · rw [rupn (by omega), h7 q hq]
                  by_cases e2 : s + i1 ≤ q ∧ q < s + c
                  · rw [if_pos e2, if_pos (by omega)]
                  · rw [if_neg e2, if_neg (by omega)]
              · rw [if_neg z] at hy
                have cj : c = j1 - 1 := by omega
                refine g_iinc C [_, _, _, _, _, _, _, _, _, _] d_Mod_pack_171 rfl rfl rfl ?_
                refine g_incN C [_, _, _, _, _, _, _, _, _, _] d_Mod_pack_174 rfl rfl ?_
                refine g_goto C 138 d_Mod_pack_177 (by decide) ?_
                rw [show c + 1 = j1 by omega]
                refine V.le (lvle.keep (lvle.keep (lvle.keep (lvle.keep (lvle.keep (lvle.keep (lvle.keep (lvle.keep (lvle.drop (lvle.keep lvle.nil)))))))))) ?_
                refine aft _ _ hR (hF.up (by unfold LA; omega)) ((rupn (by omega)).trans h8) (fun q hq => ?_)
                by_cases e1 : q = s + c
                · rw [e1, rups, if_pos (by omega), if_neg (by omega), hy]
                · rw [rupn (by omega), h7 q hq]
                  by_cases e2 : s + i1 ≤ q ∧ q < s + c
                  · rw [if_pos e2, if_pos (by omega), if_pos (by omega)]
                  · rw [if_neg e2, if_neg (by omega)]
            refine g_icmp_ge C 169 d_Mod_pack_161 (by decide) (by first | exact nI_toInt (by omega) | rfl) (by first | exact nI_toInt (by omega) | rfl) (fun b161 => ?_) (fun b161 => ?_)
            · refine g_iconst (v := nI 4) C d_Mod_pack_169 rfl ?_
              refine body 4 ?_
              by_cases z : c + 1 < j1
              · rw [if_pos z]
              · rw [if_neg z]; have : c = j1 - 1 := by omega
                subst this; omega
            · refine g_ld C d_Mod_pack_164 rfl ?_
              refine g_goto C 170 d_Mod_pack_166 (by decide) ?_
              refine body _ ?_
              by_cases z : c + 1 < j1
              · have := hlo (by omega); exfalso; omega
              · rw [if_neg z]; have : c = j1 - 1 := by omega
                subst this; rfl
        have lpJ : ∀ c, c ≤ j1 - 1 → i1 ≤ c → V X w 0 0 [some (.ref m), some (.int (nI l)), some (.int (nI s)), some (.int (nI n)), some (.int (nI (ps Q (s + n) - ps Q s))), some (.int (nI (mm + 1))), some (.int (nI (i1))), some (.int (nI (c))), some (.int (nI (ps Qc (s + (c + 1)) - ps Qc (s + i1)))), none] [] 100 := by
          refine upto _ (fun c hc ihc ci => ?_)
          have ps1 := ps_s Qc (s + (c + 1))
          have psm := ps_mono Qc (a := s + i1) (b := s + (c + 1)) (by omega)
          have hpc := hps (s + (c + 1))
          have hgc := hg (s + (c + 1)) (by omega)
          have es : ps Qc (s + (c + 1)) - ps Qc (s + i1) + gd 0 Qc (s + (c + 1)) = ps Qc (s + (c + 1 + 1)) - ps Qc (s + i1) := by rw [show s + (c + 1 + 1) = s + (c + 1) + 1 from rfl]; omega
          refine g_incN C [_, _, _, _, _, _, _, _, _, _] d_Mod_pack_100 rfl rfl ?_
          refine g_ld C d_Mod_pack_103 rfl ?_
          refine g_aldn C d_Mod_pack_105 rfl ?_
          refine r_f8 C d_Mod_pack_106 hR ?_
          refine g_iconst (v := nI 2) C d_Mod_pack_109 rfl ?_
          refine g_ldn C d_Mod_pack_110 rfl ?_
          refine g_ldn C d_Mod_pack_111 rfl ?_
          refine g_ld C d_Mod_pack_112 rfl ?_
          first | refine g_addN C d_Mod_pack_114 ?_ | refine g_add C d_Mod_pack_114 ?_
          refine r_cell C d_Mod_pack_115 (by omega) rfl (Nat.le_of_ble_eq_true rfl) (by decide) (by decide) (by decide) (by decide) ?_
          refine r_ld7 C d_Mod_pack_118 hR (by omega) (hW.2.2 (s + (c + 1)) (by omega)) ?_
          first | refine g_addN C d_Mod_pack_119 ?_ | refine g_add C d_Mod_pack_119 ?_
          rw [es]
          have hpc2 := hps (s + (c + 1 + 1))
          refine g_st C [_, _, _, _, _, _, _, _, _, _] d_Mod_pack_120 (Nat.le_of_ble_eq_true rfl) rfl ?_
          refine g_ld C d_Mod_pack_122 rfl ?_
          refine g_iconst (v := nI 4) C d_Mod_pack_124 rfl ?_
          refine g_ld C d_Mod_pack_125 rfl ?_
          refine g_ld C d_Mod_pack_127 rfl ?_
          first | refine g_subN C d_Mod_pack_129 (by omega) ?_ | refine g_sub C d_Mod_pack_129 ?_
          first | refine g_mulN C d_Mod_pack_130 ?_ | refine g_mul C d_Mod_pack_130 ?_
          refine g_icmp_gt C 100 d_Mod_pack_131 (by decide) (by first | exact nI_toInt (by omega) | rfl) (by first | exact nI_toInt (by omega) | rfl) (fun b131 => ?_) (fun b131 => ?_)
          · refine ihc (c + 1) (by omega) (Classical.byContradiction (fun z => ?_)) (by omega)
            have cj : c + 1 = j1 := by omega
            rw [cj] at b131
            omega
          · have cj : c + 1 = j1 := Classical.byContradiction (fun z => by have := a7 (s + (c + 1)) (by omega) (by omega); rw [show s + (c + 1) + 1 = s + (c + 1 + 1) from rfl] at this; omega)
            subst cj
            refine g_ld C d_Mod_pack_134 rfl ?_
            refine g_st C [_, _, _, _, _, _, _, _, _, _] d_Mod_pack_136 (Nat.le_of_ble_eq_true rfl) rfl ?_
            have q0 := lpK i1 (by omega) w R1 (Nat.le_refl _) hR hF hW.1 (fun q hq => by rw [if_neg (by omega)]; exact hW.2.2 q hq)
            rw [Nat.sub_self, Nat.mul_zero, Nat.sub_zero] at q0
            exact q0
        have lpI : ∀ c, c ≤ i1 → V X w 0 0 [some (.ref m), some (.int (nI l)), some (.int (nI s)), some (.int (nI n)), some (.int (nI (ps Q (s + n) - ps Q s))), some (.int (nI (mm + 1))), some (.int (nI (c))), none, none, none] [] 56 := by
          refine upto _ (fun c hc ihc => ?_)
          have hgc := hg (s + c) (by omega)
          refine g_aldn C d_Mod_pack_56 rfl ?_
          refine r_f8 C d_Mod_pack_57 hR ?_
          refine g_iconst (v := nI 2) C d_Mod_pack_60 rfl ?_
          refine g_ldn C d_Mod_pack_61 rfl ?_
          refine g_ldn C d_Mod_pack_62 rfl ?_
          refine g_ld C d_Mod_pack_63 rfl ?_
          first | refine g_addN C d_Mod_pack_65 ?_ | refine g_add C d_Mod_pack_65 ?_
          refine r_cell C d_Mod_pack_66 (by omega) rfl (Nat.le_of_ble_eq_true rfl) (by decide) (by decide) (by decide) (by decide) ?_
          refine r_ld7 C d_Mod_pack_69 hR (by omega) (hW.2.2 (s + c) (by omega)) ?_
          refine g_iconst (v := nI 4) C d_Mod_pack_70 rfl ?_
          refine g_icmp_ne C 80 d_Mod_pack_71 (by decide) (by first | exact nI_toInt (by omega) | rfl) (by first | exact nI_toInt (by omega) | rfl) (fun b71 => ?_) (fun b71 => ?_)
          · have ci : c = i1 := Classical.byContradiction (fun z => by have := a5 (s + c) (by omega) (by omega); omega)
            subst ci
            refine g_ld C d_Mod_pack_80 rfl ?_
            refine g_st C [_, _, _, _, _, _, _, _, _, _] d_Mod_pack_82 (Nat.le_of_ble_eq_true rfl) rfl ?_
            refine g_aldn C d_Mod_pack_84 rfl ?_
            refine r_f8 C d_Mod_pack_85 hR ?_
            refine g_iconst (v := nI 2) C d_Mod_pack_88 rfl ?_
            refine g_ldn C d_Mod_pack_89 rfl ?_
            refine g_ldn C d_Mod_pack_90 rfl ?_
            refine g_ld C d_Mod_pack_91 rfl ?_
            first | refine g_addN C d_Mod_pack_93 ?_ | refine g_add C d_Mod_pack_93 ?_
            refine r_cell C d_Mod_pack_94 (by omega) rfl (Nat.le_of_ble_eq_true rfl) (by decide) (by decide) (by decide) (by decide) ?_
            refine r_ld7 C d_Mod_pack_97 hR (by omega) (hW.2.2 (s + c) (by omega)) ?_
            refine g_st C [_, _, _, _, _, _, _, _, _, _] d_Mod_pack_98 (Nat.le_of_ble_eq_true rfl) rfl ?_
            have q0 := lpJ c (by omega) (Nat.le_refl _)
            rw [show ps Qc (s + (c + 1)) - ps Qc (s + c) = gd 0 Qc (s + c) by have := ps_s Qc (s + c); rw [show s + (c + 1) = s + c + 1 from rfl]; omega] at q0
            exact q0
          · have ci : c < i1 := Nat.lt_of_le_of_ne hc (fun z => by rw [z] at b71; omega)
            refine g_incN C [_, _, _, _, _, _, _, _, _, _] d_Mod_pack_74 rfl rfl ?_
            refine g_goto C 56 d_Mod_pack_77 (by decide) ?_
            exact ihc (c + 1) (by omega) (by omega)
        refine g_iconst (v := nI 0) C d_Mod_pack_53 rfl ?_
        refine g_st C [_, _, _, _, _, _, _, _, _, _] d_Mod_pack_54 (Nat.le_of_ble_eq_true rfl) rfl ?_
        exact lpI 0 (by omega)
  have sum : ∀ c, c ≤ n → V X w 0 0 [some (.ref m), some (.int (nI l)), some (.int (nI s)), some (.int (nI n)), some (.int (nI (ps Q (s + c) - ps Q s))), some (.int (nI (c))), none, none, none, none] [] 6 := by
    refine upto _ (fun c hc ihc => ?_)
    refine g_ld C d_Mod_pack_6 rfl ?_
    refine g_ldn C d_Mod_pack_8 rfl ?_
    refine g_icmp_ge C 37 d_Mod_pack_9 (by decide) (by first | exact nI_toInt (by omega) | rfl) (by first | exact nI_toInt (by omega) | rfl) (fun b9 => ?_) (fun b9 => ?_)
    · have cn : c = n := by omega
      subst cn
      refine g_ldn C d_Mod_pack_37 rfl ?_
      refine g_st C [_, _, _, _, _, _, _, _, _, _] d_Mod_pack_38 (Nat.le_of_ble_eq_true rfl) rfl ?_
      exact loop c w R Q hR FrL.rf hW hQ hs rfl hn (Nat.le_refl _) rfl
    · have es : ps Q (s + c) - ps Q s + gd 0 Q (s + c) = ps Q (s + (c + 1)) - ps Q s := by have := ps_s Q (s + c); have := ps_mono Q (a := s) (b := s + c) (by omega); rw [show s + (c + 1) = s + c + 1 from rfl]; omega
      refine g_ld C d_Mod_pack_12 rfl ?_
      refine g_aldn C d_Mod_pack_14 rfl ?_
      refine r_f8 C d_Mod_pack_15 hR ?_
      refine g_iconst (v := nI 2) C d_Mod_pack_18 rfl ?_
      refine g_ldn C d_Mod_pack_19 rfl ?_
      refine g_ldn C d_Mod_pack_20 rfl ?_
      refine g_ld C d_Mod_pack_21 rfl ?_
      first | refine g_addN C d_Mod_pack_23 ?_ | refine g_add C d_Mod_pack_23 ?_
      refine r_cell C d_Mod_pack_24 (by omega) rfl (Nat.le_of_ble_eq_true rfl) (by decide) (by decide) (by decide) (by decide) ?_
      refine r_ld7 C d_Mod_pack_27 hR (by omega) (hW.2.2 (s + c) (by omega)) ?_
      first | refine g_addN C d_Mod_pack_28 ?_ | refine g_add C d_Mod_pack_28 ?_
      rw [es]
      refine g_st C [_, _, _, _, _, _, _, _, _, _] d_Mod_pack_29 (Nat.le_of_ble_eq_true rfl) rfl ?_
      refine g_incN C [_, _, _, _, _, _, _, _, _, _] d_Mod_pack_31 rfl rfl ?_
      refine g_goto C 6 d_Mod_pack_34 (by decide) ?_
      exact ihc (c + 1) (by omega) (by omega)
  refine g_iconst (v := nI 0) C d_Mod_pack_0 rfl ?_
  refine g_st C [_, _, _, _, _, _, _, _, _, _] d_Mod_pack_1 (Nat.le_of_ble_eq_true rfl) rfl ?_
  refine g_iconst (v := nI 0) C d_Mod_pack_3 rfl ?_
  refine g_st C [_, _, _, _, _, _, _, _, _, _] d_Mod_pack_4 (Nat.le_of_ble_eq_true rfl) rfl ?_
  have q0 := sum 0 (by omega)
  rw [show s + 0 = s from rfl, Nat.sub_self] at q0
  exact q0
