/-! THE REFERENCE: joining. -/
theorem er_last {p q : List Nat} (h : 1 ≤ p.length) : (p ++ q).eraseIdx (p.length - 1) = p.take (p.length - 1) ++ q := by
  refine gd_ext 0 ?_ (fun i hi => ?_)
  · rw [List.length_eraseIdx, if_pos (by simp; omega)]; simp; omega
  · rw [gd_erase]
    by_cases e : i < p.length - 1
    · rw [if_pos e, gd_l (by omega), gd_l (by simp; omega), gd_take e]
    · rw [if_neg e, gd_r (by omega), gd_r (by simp; omega)]
      congr 1; simp; omega
theorem er_first {p q : List Nat} (h : 1 ≤ q.length) : (p ++ q).eraseIdx p.length = p ++ q.drop 1 := by
  refine gd_ext 0 ?_ (fun i hi => ?_)
  · rw [List.length_eraseIdx, if_pos (by simp; omega)]; simp; omega
  · rw [gd_erase]
    by_cases e : i < p.length
    · rw [if_pos e, gd_l e, gd_l e]
    · rw [if_neg e, gd_r (by omega), gd_r (by omega), gd_drop]
      congr 1; omega
theorem ins_at {p q : List Nat} {y n : Nat} (h : p.length = n) : insL (p ++ q) n y = p ++ y :: q := by
  subst h; unfold insL; simp
theorem wf_le1 {M : Nat} {T : Tr} (h : wfT M T) (k : Nat) : (T.2.1 k).length ≤ T.1.length := by
  by_cases hk : k = 0 ∨ T.2.2 < k
  · rw [h.2.2.2.1 k hk]; simp
  · have h1 := wf_cn_le h k (by omega)
    rw [cn_p T (by omega)] at h1
    exact h1
def Fr2 (i : Nat) (R R' : RA) : Prop := ∀ k j, ¬ LA 2 i k j → ¬ LA 2 (i + 1) k j → R' k j = R k j
theorem Fr2.a {i : Nat} {R R1 R2 : RA} (h : Fr2 i R R1) (h2 : FrL 2 i R1 R2) : Fr2 i R R2 := fun k j a b => (h2 k j a).trans (h k j a b)
theorem Fr2.b {i : Nat} {R R1 R2 : RA} (h : Fr2 i R R1) (h2 : FrL 2 (i + 1) R1 R2) : Fr2 i R R2 := fun k j a b => (h2 k j b).trans (h k j a b)
set_option maxRecDepth 100000 in
set_option maxHeartbeats 4000000 in
theorem c_Mod_meet (N : gN) (w0 w : gW) (m : Nat) (R : RA) (md i : Nat) (P Q : Tr) (wP : wfT 5 P) (wQ : wfT 5 Q) (p1 : 1 ≤ P.2.2) (q1 : 1 ≤ Q.2.2) (hl : P.1.length + Q.1.length ≤ 80) (i1 : 1 ≤ i) (i5 : i + 1 ≤ 5) (hR : RefW w0 w m R md) (h0 : WkR R 0 P) (h1 : WkR R 1 Q) (hr1 : WRow R 2 i (jUp P.2.1 Q.2.1 i).1) (hr2 : WRow R 2 (i + 1) (P.2.1 (i + 1) ++ Q.2.1 (i + 1))) : CtN N y_Mod_meet b_Mod_meet 11 (some FieldType.int) (rmm 3 76 0 0) [.ref m, .int (nI (i + 1)), .int (nI (jUp P.2.1 Q.2.1 i).2.2)] w (pI (fun r w' => ∃ R', RefW w0 w' m R' md ∧ WRow R' 2 i (jPk P.2.1 Q.2.1 i).1 ∧ WRow R' 2 (i + 1) (jUp P.2.1 Q.2.1 (i + 1)).1 ∧ Fr2 i R R' ∧ r = nI (jUp P.2.1 Q.2.1 (i + 1)).2.2)) 0 0 := by
  refine ct_intro N [some (.ref m), some (.int (nI (i + 1))), some (.int (nI (jUp P.2.1 Q.2.1 i).2.2)), none, none, none, none, none, none, none, none] (by decide) rfl (Nat.le_of_ble_eq_true rfl) (by simp [Value.category]) ?_
  intro X hX C Rr
  have hok := jUp_ok wP wQ p1 q1 (i - 1)
  rw [show i - 1 + 1 = i by omega] at hok
  obtain ⟨j1, j2, j3, j4⟩ := id hok
  obtain ⟨a1, a2, a3, a4, a5, a6, a7, a8, a9⟩ := jPk_ok wP wQ i1 hok
  have hus := jUp_s P.2.1 Q.2.1 i1
  have rP := h0.2.2 (i + 1) (by omega) (by omega)
  have rQ := h1.2.2 (i + 1) (by omega) (by omega)
  have rPi := h0.2.2 i i1 (by omega)
  have lp := wf_le1 wP (i + 1)
  have lq := wf_le1 wQ (i + 1)
  have lpi := wf_len wP i
  have oe := ok_end (wf_okR wP (i + 1))
  have ob := ok_beg (wf_okR wQ (i + 1))
  have nP := fun z => wf_ne wP (k := i + 1) (by omega) z
  have nQ := fun z => wf_ne wQ (k := i + 1) (by omega) z
  have zP := fun z => wP.2.2.2.1 (i + 1) (Or.inr z)
  have zQ := fun z => wQ.2.2.2.1 (i + 1) (Or.inr z)
  have ziP := fun z => wP.2.2.2.1 i (Or.inr z)
  have hH0 : R 10 0 = nI P.2.2 := h0.2.1
  have hH1 : R 10 1 = nI Q.2.2 := h1.2.1
  have hP5 := wP.2.1
  have hQ5 := wQ.2.1
  have c0 : R 8 (i + 1) = nI (P.2.1 (i + 1)).length := by have := rP.1; rw [show 8 * 0 + (i + 1) = i + 1 by omega] at this; exact this
  have ci : R 8 i = nI (P.2.1 i).length := by have := rPi.1; rw [show 8 * 0 + i = i by omega] at this; exact this
  have P1 : 1 ≤ P.1.length := Nat.one_le_iff_ne_zero.mpr (fun z => by have := wP.2.2.1.mpr z; omega)
  have Q1 : 1 ≤ Q.1.length := Nat.one_le_iff_ne_zero.mpr (fun z => by have := wQ.2.2.1.mpr z; omega)
  have tl : ((P.2.1 (i + 1)).take ((P.2.1 (i + 1)).length - 1)).length = (P.2.1 (i + 1)).length - 1 := by rw [List.length_take]; omega
  obtain ⟨bP, hbP⟩ : ∃ b : Nat, (b = 1 ∧ i + 1 ≤ P.2.2) ∨ (b = 0 ∧ P.2.2 < i + 1) := by
    by_cases z : i + 1 ≤ P.2.2
    · exact ⟨1, Or.inl ⟨rfl, z⟩⟩
    · exact ⟨0, Or.inr ⟨rfl, by omega⟩⟩
  obtain ⟨bQ, hbQ⟩ : ∃ b : Nat, (b = 1 ∧ i + 1 ≤ Q.2.2) ∨ (b = 0 ∧ Q.2.2 < i + 1) := by
    by_cases z : i + 1 ≤ Q.2.2
    · exact ⟨1, Or.inl ⟨rfl, z⟩⟩
    · exact ⟨0, Or.inr ⟨rfl, by omega⟩⟩
  have st197 : ∀ (w1 : gW) (R1 : RA), RefW w0 w1 m R1 md → Fr2 i R R1 → WRow R1 2 i (jPk P.2.1 Q.2.1 i).1 → WRow R1 2 (i + 1) ((P.2.1 (i + 1)).take ((P.2.1 (i + 1)).length - 1) ++ ((if 4 < (jPk P.2.1 Q.2.1 i).2 then [(jPk P.2.1 Q.2.1 i).2 - 4] else []) ++ (Q.2.1 (i + 1)).drop 1)) → V X w1 0 0 [some (.ref m), some (.int (nI (i + 1))), some (.int (nI ((jUp P.2.1 Q.2.1 i).2.2))), some (.int (nI (bP))), some (.int (nI (bQ))), some (.int (nI ((P.2.1 (i + 1)).length))), some (.int (nI (endOf (P.2.1 (i + 1)) - 1))), some (.int (nI (begOf (Q.2.1 (i + 1)) - 1))), some (.int (nI ((P.2.1 i).length - 1))), some (.int (nI ((jPk P.2.1 Q.2.1 i).2))), some (.int (nI ((P.2.1 (i + 1)).length - 1)))] [] 197 := by
    intro w R1 hR hF hq1 hq2
    refine g_aldn C d_Mod_meet_197 rfl ?_
    refine g_iconst (v := nI 2) C d_Mod_meet_198 rfl ?_
    refine g_ldn C d_Mod_meet_199 rfl ?_
    refine g_ld C d_Mod_meet_200 rfl ?_
    refine g_ld C d_Mod_meet_202 rfl ?_
    refine g_iconst (v := nI 4) C d_Mod_meet_204 rfl ?_
    by_cases n4 : 4 < (jPk P.2.1 Q.2.1 i).2
    · have hle : ((P.2.1 (i + 1)).take ((P.2.1 (i + 1)).length - 1) ++ ((if 4 < (jPk P.2.1 Q.2.1 i).2 then [(jPk P.2.1 Q.2.1 i).2 - 4] else []) ++ (Q.2.1 (i + 1)).drop 1)).length < 80 := by rw [if_pos n4]; simp [tl]; omega
      refine g_icmp_le C 212 d_Mod_meet_205 (by decide) (by first | exact nI_toInt (by omega) | rfl) (by first | exact nI_toInt (by omega) | rfl) (fun b205 => ?_) (fun b205 => ?_)
      · exfalso; omega
      · refine g_iconst (v := nI 4) C d_Mod_meet_208 rfl ?_
        refine g_goto C 214 d_Mod_meet_209 (by decide) ?_
        refine g_callV (ci := kMod) C d_Mod_meet_214 cw_Mod_67 sl_Mod_enter (c_Mod_enter X.1 w0 w m R1 md 2 (i + 1) ((P.2.1 (i + 1)).length - 1) (4) ((P.2.1 (i + 1)).take ((P.2.1 (i + 1)).length - 1) ++ ((if 4 < (jPk P.2.1 Q.2.1 i).2 then [(jPk P.2.1 Q.2.1 i).2 - 4] else []) ++ (Q.2.1 (i + 1)).drop 1)) (by omega) (by omega) (by omega) (by rw [List.length_append, tl]; omega) hle hR hq2) rfl hR.2.1 (As := [.int (nI 2), .int (nI (i + 1)), .int (nI ((P.2.1 (i + 1)).length - 1)), .int (nI 4)]) rfl rfl rfl (Nat.le_of_ble_eq_true rfl) ⟨rfl, rfl, by decide, by decide⟩ ⟨by decide, by decide⟩ (kV (fun w2 h2 => ?_))
        obtain ⟨R2, hR2, hW2, hF2⟩ := h2
        rw [ins_at tl] at hW2
        refine g_ld C d_Mod_meet_217 rfl ?_
        refine g_iconst (v := nI 4) C d_Mod_meet_219 rfl ?_
        refine g_icmp_le C 227 d_Mod_meet_220 (by decide) (by first | exact nI_toInt (by omega) | rfl) (by first | exact nI_toInt (by omega) | rfl) (fun b220 => ?_) (fun b220 => ?_)
        · exfalso; omega
        · refine g_iconst (v := nI 2) C d_Mod_meet_223 rfl ?_
          refine g_goto C 228 d_Mod_meet_224 (by decide) ?_
          exact g_iret C Rr d_Mod_meet_228 rfl (by decide) (by decide) ⟨_, rfl, R2, hR2, hq1.frL hF2 (by omega) (by omega) (by omega) (by omega) (by omega), by rw [hus]; show WRow R2 2 (i + 1) (jRow (P.2.1 (i + 1)) (Q.2.1 (i + 1)) (jPk P.2.1 Q.2.1 i).2); unfold jRow; rw [show min (jPk P.2.1 Q.2.1 i).2 4 = 4 by omega]; exact hW2, hF.b hF2, by rw [hus]; show _ = nI (if 4 < (jPk P.2.1 Q.2.1 i).2 then 2 else 1); rw [if_pos n4]⟩
    · have hle : ((P.2.1 (i + 1)).take ((P.2.1 (i + 1)).length - 1) ++ ((if 4 < (jPk P.2.1 Q.2.1 i).2 then [(jPk P.2.1 Q.2.1 i).2 - 4] else []) ++ (Q.2.1 (i + 1)).drop 1)).length < 80 := by rw [if_neg n4]; simp [tl]; omega
      refine g_icmp_le C 212 d_Mod_meet_205 (by decide) (by first | exact nI_toInt (by omega) | rfl) (by first | exact nI_toInt (by omega) | rfl) (fun b205 => ?_) (fun b205 => ?_)
      · refine g_ld C d_Mod_meet_212 rfl ?_
        refine g_callV (ci := kMod) C d_Mod_meet_214 cw_Mod_67 sl_Mod_enter (c_Mod_enter X.1 w0 w m R1 md 2 (i + 1) ((P.2.1 (i + 1)).length - 1) ((jPk P.2.1 Q.2.1 i).2) ((P.2.1 (i + 1)).take ((P.2.1 (i + 1)).length - 1) ++ ((if 4 < (jPk P.2.1 Q.2.1 i).2 then [(jPk P.2.1 Q.2.1 i).2 - 4] else []) ++ (Q.2.1 (i + 1)).drop 1)) (by omega) (by omega) (by omega) (by rw [List.length_append, tl]; omega) hle hR hq2) rfl hR.2.1 (As := [.int (nI 2), .int (nI (i + 1)), .int (nI ((P.2.1 (i + 1)).length - 1)), .int (nI (jPk P.2.1 Q.2.1 i).2)]) rfl rfl rfl (Nat.le_of_ble_eq_true rfl) ⟨rfl, rfl, by decide, by decide⟩ ⟨by decide, by decide⟩ (kV (fun w2 h2 => ?_))
        obtain ⟨R2, hR2, hW2, hF2⟩ := h2
        rw [ins_at tl] at hW2
        refine g_ld C d_Mod_meet_217 rfl ?_
        refine g_iconst (v := nI 4) C d_Mod_meet_219 rfl ?_
        refine g_icmp_le C 227 d_Mod_meet_220 (by decide) (by first | exact nI_toInt (by omega) | rfl) (by first | exact nI_toInt (by omega) | rfl) (fun b220 => ?_) (fun b220 => ?_)
        · refine g_iconst (v := nI 1) C d_Mod_meet_227 rfl ?_
          exact g_iret C Rr d_Mod_meet_228 rfl (by decide) (by decide) ⟨_, rfl, R2, hR2, hq1.frL hF2 (by omega) (by omega) (by omega) (by omega) (by omega), by rw [hus]; show WRow R2 2 (i + 1) (jRow (P.2.1 (i + 1)) (Q.2.1 (i + 1)) (jPk P.2.1 Q.2.1 i).2); unfold jRow; rw [show min (jPk P.2.1 Q.2.1 i).2 4 = (jPk P.2.1 Q.2.1 i).2 by omega]; exact hW2, hF.b hF2, by rw [hus]; show _ = nI (if 4 < (jPk P.2.1 Q.2.1 i).2 then 2 else 1); rw [if_neg n4]⟩
        · exfalso; omega
      · exfalso; omega
  have st179 : ∀ (w1 : gW) (R1 : RA), RefW w0 w1 m R1 md → Fr2 i R R1 → WRow R1 2 i (jPk P.2.1 Q.2.1 i).1 → WRow R1 2 (i + 1) ((P.2.1 (i + 1)).take ((P.2.1 (i + 1)).length - 1) ++ (Q.2.1 (i + 1)).drop 1) → V X w1 0 0 [some (.ref m), some (.int (nI (i + 1))), some (.int (nI ((jUp P.2.1 Q.2.1 i).2.2))), some (.int (nI (bP))), some (.int (nI (bQ))), some (.int (nI ((P.2.1 (i + 1)).length))), some (.int (nI (endOf (P.2.1 (i + 1)) - 1))), some (.int (nI (begOf (Q.2.1 (i + 1)) - 1))), some (.int (nI ((P.2.1 i).length - 1))), some (.int (nI ((jPk P.2.1 Q.2.1 i).2))), some (.int (nI ((P.2.1 (i + 1)).length - 1)))] [] 179 := by
    intro w R1 hR hF hq1 hq2
    refine g_ld C d_Mod_meet_179 rfl ?_
    refine g_iconst (v := nI 4) C d_Mod_meet_181 rfl ?_
    refine g_icmp_le C 197 d_Mod_meet_182 (by decide) (by first | exact nI_toInt (by omega) | rfl) (by first | exact nI_toInt (by omega) | rfl) (fun b182 => ?_) (fun b182 => ?_)
    · refine st197 w R1 hR hF hq1 ?_
      rw [if_neg (by omega)]; exact hq2
    · refine g_aldn C d_Mod_meet_185 rfl ?_
      refine g_iconst (v := nI 2) C d_Mod_meet_186 rfl ?_
      refine g_ldn C d_Mod_meet_187 rfl ?_
      refine g_ld C d_Mod_meet_188 rfl ?_
      refine g_ld C d_Mod_meet_190 rfl ?_
      refine g_iconst (v := nI 4) C d_Mod_meet_192 rfl ?_
      first | refine g_subN C d_Mod_meet_193 (by omega) ?_ | refine g_sub C d_Mod_meet_193 ?_
      refine g_callV (ci := kMod) C d_Mod_meet_194 cw_Mod_67 sl_Mod_enter (c_Mod_enter X.1 w0 w m R1 md 2 (i + 1) ((P.2.1 (i + 1)).length - 1) ((jPk P.2.1 Q.2.1 i).2 - 4) ((P.2.1 (i + 1)).take ((P.2.1 (i + 1)).length - 1) ++ (Q.2.1 (i + 1)).drop 1) (by omega) (by omega) (by omega) (by simp [tl] <;> omega) (by simp [tl] <;> omega) hR hq2) rfl hR.2.1 (As := [.int (nI 2), .int (nI (i + 1)), .int (nI ((P.2.1 (i + 1)).length - 1)), .int (nI ((jPk P.2.1 Q.2.1 i).2 - 4))]) rfl rfl rfl (Nat.le_of_ble_eq_true rfl) ⟨rfl, rfl, by decide, by decide⟩ ⟨by decide, by decide⟩ (kV (fun w2 h2 => ?_))
      obtain ⟨R2, hR2, hW2, hF2⟩ := h2
      rw [ins_at tl] at hW2
      refine st197 w2 R2 hR2 (hF.b hF2) (hq1.frL hF2 (by omega) (by omega) (by omega) (by omega) (by omega)) ?_
      rw [if_pos (by omega)]; exact hW2
  have st166 : ∀ (w1 : gW) (R1 : RA), RefW w0 w1 m R1 md → Fr2 i R R1 → WRow R1 2 i (jPk P.2.1 Q.2.1 i).1 → WRow R1 2 (i + 1) ((P.2.1 (i + 1)).take ((P.2.1 (i + 1)).length - 1) ++ (Q.2.1 (i + 1))) → V X w1 0 0 [some (.ref m), some (.int (nI (i + 1))), some (.int (nI ((jUp P.2.1 Q.2.1 i).2.2))), some (.int (nI (bP))), some (.int (nI (bQ))), some (.int (nI ((P.2.1 (i + 1)).length))), some (.int (nI (endOf (P.2.1 (i + 1)) - 1))), some (.int (nI (begOf (Q.2.1 (i + 1)) - 1))), some (.int (nI ((P.2.1 i).length - 1))), some (.int (nI ((jPk P.2.1 Q.2.1 i).2))), some (.int (nI ((P.2.1 (i + 1)).length - 1)))] [] 166 := by
    intro w R1 hR hF hq1 hq2
    refine g_ld C d_Mod_meet_166 rfl ?_
    refine g_if_eq C 179 d_Mod_meet_168 (by decide) (by first | exact nI_toInt (by omega) | rfl) (fun b168 => ?_) (fun b168 => ?_)
    · refine st179 w R1 hR hF hq1 ?_
      rw [zQ (by omega)] at hq2 ⊢; exact hq2
    · have := nQ (by omega)
      refine g_aldn C d_Mod_meet_171 rfl ?_
      refine g_iconst (v := nI 2) C d_Mod_meet_172 rfl ?_
      refine g_ldn C d_Mod_meet_173 rfl ?_
      refine g_ld C d_Mod_meet_174 rfl ?_
      refine g_callV (ci := kMod) C d_Mod_meet_176 cw_Mod_75 sl_Mod_leave (c_Mod_leave X.1 w0 w m R1 md 2 (i + 1) ((P.2.1 (i + 1)).length - 1) ((P.2.1 (i + 1)).take ((P.2.1 (i + 1)).length - 1) ++ (Q.2.1 (i + 1))) (by omega) (by omega) (by omega) (by simp [tl] <;> omega) hR hq2) rfl hR.2.1 (As := [.int (nI 2), .int (nI (i + 1)), .int (nI ((P.2.1 (i + 1)).length - 1))]) rfl rfl rfl (Nat.le_of_ble_eq_true rfl) ⟨rfl, rfl, by decide, by decide⟩ ⟨by decide, by decide⟩ (kV (fun w2 h2 => ?_))
      obtain ⟨R2, hR2, hW2, hF2⟩ := h2
      have ee := er_first (p := (P.2.1 (i + 1)).take ((P.2.1 (i + 1)).length - 1)) (q := (Q.2.1 (i + 1))) (by omega)
      rw [tl] at ee
      rw [ee] at hW2
      exact st179 w2 R2 hR2 (hF.b hF2) (hq1.frL hF2 (by omega) (by omega) (by omega) (by omega) (by omega)) hW2
  have st154 : ∀ (w1 : gW) (R1 : RA), RefW w0 w1 m R1 md → Fr2 i R R1 → WRow R1 2 i (jPk P.2.1 Q.2.1 i).1 → WRow R1 2 (i + 1) ((P.2.1 (i + 1)) ++ (Q.2.1 (i + 1))) → V X w1 0 0 [some (.ref m), some (.int (nI (i + 1))), some (.int (nI ((jUp P.2.1 Q.2.1 i).2.2))), some (.int (nI (bP))), some (.int (nI (bQ))), some (.int (nI ((P.2.1 (i + 1)).length))), some (.int (nI (endOf (P.2.1 (i + 1)) - 1))), some (.int (nI (begOf (Q.2.1 (i + 1)) - 1))), some (.int (nI ((P.2.1 i).length - 1))), some (.int (nI ((jPk P.2.1 Q.2.1 i).2))), some (.int (nI ((P.2.1 (i + 1)).length - 1)))] [] 154 := by
    intro w R1 hR hF hq1 hq2
    refine g_ldn C d_Mod_meet_154 rfl ?_
    refine g_if_eq C 166 d_Mod_meet_155 (by decide) (by first | exact nI_toInt (by omega) | rfl) (fun b155 => ?_) (fun b155 => ?_)
    · refine st166 w R1 hR hF hq1 ?_
      rw [zP (by omega)] at hq2 ⊢; exact hq2
    · have := nP (by omega)
      refine g_aldn C d_Mod_meet_158 rfl ?_
      refine g_iconst (v := nI 2) C d_Mod_meet_159 rfl ?_
      refine g_ldn C d_Mod_meet_160 rfl ?_
      refine g_ld C d_Mod_meet_161 rfl ?_
      refine g_callV (ci := kMod) C d_Mod_meet_163 cw_Mod_75 sl_Mod_leave (c_Mod_leave X.1 w0 w m R1 md 2 (i + 1) ((P.2.1 (i + 1)).length - 1) ((P.2.1 (i + 1)) ++ (Q.2.1 (i + 1))) (by omega) (by omega) (by omega) (by simp [tl] <;> omega) hR hq2) rfl hR.2.1 (As := [.int (nI 2), .int (nI (i + 1)), .int (nI ((P.2.1 (i + 1)).length - 1))]) rfl rfl rfl (Nat.le_of_ble_eq_true rfl) ⟨rfl, rfl, by decide, by decide⟩ ⟨by decide, by decide⟩ (kV (fun w2 h2 => ?_))
      obtain ⟨R2, hR2, hW2, hF2⟩ := h2
      rw [er_last (by omega)] at hW2
      exact st166 w2 R2 hR2 (hF.b hF2) (hq1.frL hF2 (by omega) (by omega) (by omega) (by omega) (by omega)) hW2
  have epk : pack (jUp P.2.1 Q.2.1 i).1 ((P.2.1 i).length - 1 - (endOf (P.2.1 (i + 1)) - 1)) (endOf (P.2.1 (i + 1)) - 1 + (jUp P.2.1 Q.2.1 i).2.2 + (begOf (Q.2.1 (i + 1)) - 1)) = jPk P.2.1 Q.2.1 i := by
    show _ = pack (jUp P.2.1 Q.2.1 i).1 (jStart (P.2.1 (i + 1)) (jUp P.2.1 Q.2.1 i).2.1) (jNum (P.2.1 (i + 1)) (Q.2.1 (i + 1)) (jUp P.2.1 Q.2.1 i).2.2)
    unfold jStart jNum; rw [j2]
  have st117 : V X w 0 0 [some (.ref m), some (.int (nI (i + 1))), some (.int (nI ((jUp P.2.1 Q.2.1 i).2.2))), some (.int (nI (bP))), some (.int (nI (bQ))), some (.int (nI ((P.2.1 (i + 1)).length))), some (.int (nI (endOf (P.2.1 (i + 1)) - 1))), some (.int (nI (begOf (Q.2.1 (i + 1)) - 1))), none, none, none] [.int (nI ((P.2.1 i).length - 1))] 117 := by
    unfold jStart jNum at a2
    unfold jNum at a3 a4
    rw [j2] at a1 a2
    refine g_st C [_, _, _, _, _, _, _, _, _, _, _] d_Mod_meet_117 (Nat.le_of_ble_eq_true rfl) rfl ?_
    refine g_aldn C d_Mod_meet_119 rfl ?_
    refine g_ldn C d_Mod_meet_120 rfl ?_
    refine g_iconst (v := nI 1) C d_Mod_meet_121 rfl ?_
    first | refine g_subN C d_Mod_meet_122 (by omega) ?_ | refine g_sub C d_Mod_meet_122 ?_
    refine g_ld C d_Mod_meet_123 rfl ?_
    refine g_ld C d_Mod_meet_125 rfl ?_
    first | refine g_subN C d_Mod_meet_127 (by omega) ?_ | refine g_sub C d_Mod_meet_127 ?_
    refine g_ld C d_Mod_meet_128 rfl ?_
    refine g_ldn C d_Mod_meet_130 rfl ?_
    first | refine g_addN C d_Mod_meet_131 ?_ | refine g_add C d_Mod_meet_131 ?_
    refine g_ld C d_Mod_meet_132 rfl ?_
    first | refine g_addN C d_Mod_meet_134 ?_ | refine g_add C d_Mod_meet_134 ?_
    refine g_callV (ci := kMod) C d_Mod_meet_135 cw_Mod_83 sl_Mod_pack (c_Mod_pack X.1 w0 w m R md i ((P.2.1 i).length - 1 - (endOf (P.2.1 (i + 1)) - 1)) (endOf (P.2.1 (i + 1)) - 1 + (jUp P.2.1 Q.2.1 i).2.2 + (begOf (Q.2.1 (i + 1)) - 1)) (jUp P.2.1 Q.2.1 i).1 i1 (by omega) j1 (by omega) (by omega) hR hr1) rfl hR.2.1 (As := [.int (nI i), .int (nI ((P.2.1 i).length - 1 - (endOf (P.2.1 (i + 1)) - 1))), .int (nI (endOf (P.2.1 (i + 1)) - 1 + (jUp P.2.1 Q.2.1 i).2.2 + (begOf (Q.2.1 (i + 1)) - 1)))]) rfl rfl rfl (Nat.le_of_ble_eq_true rfl) ⟨rfl, rfl, by decide, by decide⟩ ⟨by decide, by decide⟩ (kI (fun r w2 h2 => ?_))
    obtain ⟨R2, hR2, hW2, hF2, hr⟩ := h2
    rw [epk] at hW2 hr
    rw [hr]
    have st152 : V X w2 0 0 [some (.ref m), some (.int (nI (i + 1))), some (.int (nI ((jUp P.2.1 Q.2.1 i).2.2))), some (.int (nI (bP))), some (.int (nI (bQ))), some (.int (nI ((P.2.1 (i + 1)).length))), some (.int (nI (endOf (P.2.1 (i + 1)) - 1))), some (.int (nI (begOf (Q.2.1 (i + 1)) - 1))), some (.int (nI ((P.2.1 i).length - 1))), some (.int (nI ((jPk P.2.1 Q.2.1 i).2))), none] [.int (nI ((P.2.1 (i + 1)).length - 1))] 152 := by
      refine g_st C [_, _, _, _, _, _, _, _, _, _, _] d_Mod_meet_152 (Nat.le_of_ble_eq_true rfl) rfl ?_
      exact st154 w2 R2 hR2 (Fr2.a (fun _ _ _ _ => rfl) hF2) hW2 (hr2.frL hF2 (by omega) (by omega) (by omega) (by omega) (by omega))
    refine g_st C [_, _, _, _, _, _, _, _, _, _, _] d_Mod_meet_138 (Nat.le_of_ble_eq_true rfl) rfl ?_
    refine g_ldn C d_Mod_meet_140 rfl ?_
    refine g_if_eq C 151 d_Mod_meet_141 (by decide) (by first | exact nI_toInt (by omega) | rfl) (fun b141 => ?_) (fun b141 => ?_)
    · refine g_iconst (v := nI 0) C d_Mod_meet_151 rfl ?_
      rw [show (P.2.1 (i + 1)).length - 1 = 0 by rw [zP (by omega)]; rfl] at st152
      exact st152
    · have := nP (by omega)
      refine g_ld C d_Mod_meet_144 rfl ?_
      refine g_iconst (v := nI 1) C d_Mod_meet_146 rfl ?_
      first | refine g_subN C d_Mod_meet_147 (by omega) ?_ | refine g_sub C d_Mod_meet_147 ?_
      refine g_goto C 152 d_Mod_meet_148 (by decide) ?_
      exact st152
  have st89 : V X w 0 0 [some (.ref m), some (.int (nI (i + 1))), some (.int (nI ((jUp P.2.1 Q.2.1 i).2.2))), some (.int (nI (bP))), some (.int (nI (bQ))), some (.int (nI ((P.2.1 (i + 1)).length))), some (.int (nI (endOf (P.2.1 (i + 1)) - 1))), none, none, none, none] [.int (nI (begOf (Q.2.1 (i + 1)) - 1))] 89 := by
    refine g_st C [_, _, _, _, _, _, _, _, _, _, _] d_Mod_meet_89 (Nat.le_of_ble_eq_true rfl) rfl ?_
    refine g_ldn C d_Mod_meet_91 rfl ?_
    refine g_iconst (v := nI 1) C d_Mod_meet_92 rfl ?_
    first | refine g_subN C d_Mod_meet_93 (by omega) ?_ | refine g_sub C d_Mod_meet_93 ?_
    refine g_aldn C d_Mod_meet_94 rfl ?_
    refine r_f11 C d_Mod_meet_95 hR ?_
    refine g_iconst (v := nI 0) C d_Mod_meet_98 rfl ?_
    refine r_ld10 C d_Mod_meet_99 hR (by omega) hH0 ?_
    refine g_icmp_gt C 116 d_Mod_meet_100 (by decide) (by first | exact nI_toInt (by omega) | rfl) (by first | exact nI_toInt (by omega) | rfl) (fun b100 => ?_) (fun b100 => ?_)
    · refine g_iconst (v := nI 0) C d_Mod_meet_116 rfl ?_
      rw [ziP (by omega)] at st117
      exact st117
    · have := wf_ne wP (k := i) i1 (by omega)
      refine g_aldn C d_Mod_meet_103 rfl ?_
      refine r_f9 C d_Mod_meet_104 hR ?_
      refine g_ldn C d_Mod_meet_107 rfl ?_
      refine g_iconst (v := nI 1) C d_Mod_meet_108 rfl ?_
      first | refine g_subN C d_Mod_meet_109 (by omega) ?_ | refine g_sub C d_Mod_meet_109 ?_
      refine r_ld8 C d_Mod_meet_110 hR (by omega) ci ?_
      refine g_iconst (v := nI 1) C d_Mod_meet_111 rfl ?_
      first | refine g_subN C d_Mod_meet_112 (by omega) ?_ | refine g_sub C d_Mod_meet_112 ?_
      refine g_goto C 117 d_Mod_meet_113 (by decide) ?_
      exact st117
  have st65 : V X w 0 0 [some (.ref m), some (.int (nI (i + 1))), some (.int (nI ((jUp P.2.1 Q.2.1 i).2.2))), some (.int (nI (bP))), some (.int (nI (bQ))), some (.int (nI ((P.2.1 (i + 1)).length))), none, none, none, none, none] [.int (nI (endOf (P.2.1 (i + 1)) - 1))] 65 := by
    refine g_st C [_, _, _, _, _, _, _, _, _, _, _] d_Mod_meet_65 (Nat.le_of_ble_eq_true rfl) rfl ?_
    refine g_ld C d_Mod_meet_67 rfl ?_
    refine g_if_eq C 88 d_Mod_meet_69 (by decide) (by first | exact nI_toInt (by omega) | rfl) (fun b69 => ?_) (fun b69 => ?_)
    · refine g_iconst (v := nI 0) C d_Mod_meet_88 rfl ?_
      rw [zQ (by omega)] at st89
      exact st89
    · have := nQ (by omega)
      have := ob.2 this
      refine g_aldn C d_Mod_meet_72 rfl ?_
      refine r_f8 C d_Mod_meet_73 hR ?_
      refine g_iconst (v := nI 1) C d_Mod_meet_76 rfl ?_
      refine g_ldn C d_Mod_meet_77 rfl ?_
      refine g_iconst (v := nI 0) C d_Mod_meet_78 rfl ?_
      refine r_cell C d_Mod_meet_79 (by omega) rfl (Nat.le_of_ble_eq_true rfl) (by decide) (by decide) (by decide) (by decide) ?_
      refine r_ld7 C d_Mod_meet_82 hR (by omega) (show _ = nI (begOf (Q.2.1 (i + 1))) from rQ.2.2 0 (by omega)) ?_
      refine g_iconst (v := nI 1) C d_Mod_meet_83 rfl ?_
      first | refine g_subN C d_Mod_meet_84 (by omega) ?_ | refine g_sub C d_Mod_meet_84 ?_
      refine g_goto C 89 d_Mod_meet_85 (by decide) ?_
      exact st89
  have st31 : V X w 0 0 [some (.ref m), some (.int (nI (i + 1))), some (.int (nI ((jUp P.2.1 Q.2.1 i).2.2))), some (.int (nI (bP))), none, none, none, none, none, none, none] [.int (nI bQ)] 31 := by
    refine g_st C [_, _, _, _, _, _, _, _, _, _, _] d_Mod_meet_31 (Nat.le_of_ble_eq_true rfl) rfl ?_
    refine g_aldn C d_Mod_meet_33 rfl ?_
    refine r_f9 C d_Mod_meet_34 hR ?_
    refine g_ldn C d_Mod_meet_37 rfl ?_
    refine r_ld8 C d_Mod_meet_38 hR (by omega) c0 ?_
    refine g_st C [_, _, _, _, _, _, _, _, _, _, _] d_Mod_meet_39 (Nat.le_of_ble_eq_true rfl) rfl ?_
    refine g_ldn C d_Mod_meet_41 rfl ?_
    refine g_if_eq C 64 d_Mod_meet_42 (by decide) (by first | exact nI_toInt (by omega) | rfl) (fun b42 => ?_) (fun b42 => ?_)
    · refine g_iconst (v := nI 0) C d_Mod_meet_64 rfl ?_
      rw [zP (by omega)] at st65 ⊢
      exact st65
    · have := nP (by omega)
      have := oe.2 this
      refine g_aldn C d_Mod_meet_45 rfl ?_
      refine r_f8 C d_Mod_meet_46 hR ?_
      refine g_iconst (v := nI 0) C d_Mod_meet_49 rfl ?_
      refine g_ldn C d_Mod_meet_50 rfl ?_
      refine g_ld C d_Mod_meet_51 rfl ?_
      refine g_iconst (v := nI 1) C d_Mod_meet_53 rfl ?_
      first | refine g_subN C d_Mod_meet_54 (by omega) ?_ | refine g_sub C d_Mod_meet_54 ?_
      refine r_cell C d_Mod_meet_55 (by omega) rfl (Nat.le_of_ble_eq_true rfl) (by decide) (by decide) (by decide) (by decide) ?_
      refine r_ld7 C d_Mod_meet_58 hR (by omega) (show _ = nI (endOf (P.2.1 (i + 1))) from rP.2.2 ((P.2.1 (i + 1)).length - 1) (by omega)) ?_
      refine g_iconst (v := nI 1) C d_Mod_meet_59 rfl ?_
      first | refine g_subN C d_Mod_meet_60 (by omega) ?_ | refine g_sub C d_Mod_meet_60 ?_
      refine g_goto C 65 d_Mod_meet_61 (by decide) ?_
      exact st65
  have st15 : V X w 0 0 [some (.ref m), some (.int (nI (i + 1))), some (.int (nI ((jUp P.2.1 Q.2.1 i).2.2))), none, none, none, none, none, none, none, none] [.int (nI bP)] 15 := by
    refine g_stn C [_, _, _, _, _, _, _, _, _, _, _] d_Mod_meet_15 (Nat.le_of_ble_eq_true rfl) rfl ?_
    refine g_ldn C d_Mod_meet_16 rfl ?_
    refine g_aldn C d_Mod_meet_17 rfl ?_
    refine r_f11 C d_Mod_meet_18 hR ?_
    refine g_iconst (v := nI 1) C d_Mod_meet_21 rfl ?_
    refine r_ld10 C d_Mod_meet_22 hR (by omega) hH1 ?_
    refine g_icmp_gt C 30 d_Mod_meet_23 (by decide) (by first | exact nI_toInt (by omega) | rfl) (by first | exact nI_toInt (by omega) | rfl) (fun b23 => ?_) (fun b23 => ?_)
    · refine g_iconst (v := nI 0) C d_Mod_meet_30 rfl ?_
      rw [show bQ = 0 by omega] at st31
      exact st31
    · refine g_iconst (v := nI 1) C d_Mod_meet_26 rfl ?_
      refine g_goto C 31 d_Mod_meet_27 (by decide) ?_
      rw [show bQ = 1 by omega] at st31
      exact st31
  refine g_ldn C d_Mod_meet_0 rfl ?_
  refine g_aldn C d_Mod_meet_1 rfl ?_
  refine r_f11 C d_Mod_meet_2 hR ?_
  refine g_iconst (v := nI 0) C d_Mod_meet_5 rfl ?_
  refine r_ld10 C d_Mod_meet_6 hR (by omega) hH0 ?_
  refine g_icmp_gt C 14 d_Mod_meet_7 (by decide) (by first | exact nI_toInt (by omega) | rfl) (by first | exact nI_toInt (by omega) | rfl) (fun b7 => ?_) (fun b7 => ?_)
  · refine g_iconst (v := nI 0) C d_Mod_meet_14 rfl ?_
    rw [show bP = 0 by omega] at st15
    exact st15
  · refine g_iconst (v := nI 1) C d_Mod_meet_10 rfl ?_
    refine g_goto C 15 d_Mod_meet_11 (by decide) ?_
    rw [show bP = 1 by omega] at st15
    exact st15
