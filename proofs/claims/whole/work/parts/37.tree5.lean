/-! TREE: joining. -/
theorem endOf_cell' {l : List Nat} (h : l.length ≤ 80) : cellR (l.map nI) (nI l.length - nI 1) = nI (endOf l) := by
  by_cases h0 : l.length = 0
  · have : l = [] := List.length_eq_zero_iff.mp h0
    subst this
    decide
  · rw [pk_sub (by omega)]; exact endOf_cell (by omega)
theorem jTop {M : Nat} {P Q : Tr} (hP : wfT M P) (hQ : wfT M Q) (p1 : 1 ≤ P.2.2) (q1 : 1 ≤ Q.2.2) : (jUp P.2.1 Q.2.1 (max P.2.2 Q.2.2)).1.length = (jUp P.2.1 Q.2.1 (max P.2.2 Q.2.2)).2.2 := by
  have hmx : P.2.2 ≤ max P.2.2 Q.2.2 ∧ Q.2.2 ≤ max P.2.2 Q.2.2 := ⟨Nat.le_max_left _ _, Nat.le_max_right _ _⟩
  have hmx2 : max P.2.2 Q.2.2 = P.2.2 ∨ max P.2.2 Q.2.2 = Q.2.2 := by omega
  generalize max P.2.2 Q.2.2 = H at hmx hmx2
  have h := jUp_ok hP hQ p1 q1 (H - 1)
  rw [show H - 1 + 1 = H by omega] at h
  obtain ⟨-, -, -, h4⟩ := h
  have a : (P.2.1 H).length - 1 = 0 := by
    by_cases e : P.2.2 = H
    · rw [← e, hP.2.2.2.2.2 p1]
    · rw [hP.2.2.2.1 H (by omega)]; rfl
  have b : (Q.2.1 H).length - 1 = 0 := by
    by_cases e : Q.2.2 = H
    · rw [← e, hQ.2.2.2.2.2 q1]
    · rw [hQ.2.2.2.1 H (by omega)]; rfl
  omega
def jS (P Q : Tr) (i : Nat) : Nat → List Int32 := fun k => if k = 0 then P.1 ++ Q.1 else if k < i then (jPk P.2.1 Q.2.1 k).1.map nI else if k = i then (jUp P.2.1 Q.2.1 i).1.map nI else []
theorem joinT_ne {P Q : Tr} (hp : ¬ P.1.length = 0) (hq : ¬ Q.1.length = 0) : joinT P Q = (P.1 ++ Q.1, fun k => if k = 0 then [] else if k < max P.2.2 Q.2.2 then (jPk P.2.1 Q.2.1 k).1 else if k = max P.2.2 Q.2.2 then (jUp P.2.1 Q.2.1 (max P.2.2 Q.2.2)).1 else if k = max P.2.2 Q.2.2 + 1 ∧ (jUp P.2.1 Q.2.1 (max P.2.2 Q.2.2)).2.2 = 2 then [2] else [], if (jUp P.2.1 Q.2.1 (max P.2.2 Q.2.2)).2.2 = 2 then max P.2.2 Q.2.2 + 1 else max P.2.2 Q.2.2) := by
  unfold joinT; rw [if_neg hp, if_neg hq]
set_option maxRecDepth 100000 in
set_option maxHeartbeats 4000000 in
theorem c_Tree_meetRoots (N : gN) (w : gW) (t tp tq : Nat) (rs : Nat → List Int32) (h0 : Nat) (P Q : Tr) (d1 : t + 16 ≤ tp ∨ tp + 16 ≤ t) (d2 : t + 16 ≤ tq ∨ tq + 16 ≤ t) (hl : P.1.length + Q.1.length ≤ 80) (p0 : ¬ P.1.length = 0) (q0 : ¬ Q.1.length = 0) (wP : wfT 5 P) (wQ : wfT 5 Q) (hT : TreeV w t rs h0) (hP : TreeV w tp (trs P) P.2.2) (hQ : TreeV w tq (trs Q) Q.2.2) : CtN N y_Tree_meetRoots b_Tree_meetRoots 11 none (rmm 4 110 0 0) [.ref t, .ref tp, .ref tq] w (pV (fun w' => Sm w w' t (t + 16) ∧ TreeV w' t (trs (joinT P Q)) (joinT P Q).2.2)) 0 0 := by
  refine ct_intro N [some (.ref t), some (.ref tp), some (.ref tq), none, none, none, none, none, none, none, none] (by decide) rfl (Nat.le_of_ble_eq_true rfl) (by simp [Value.category]) ?_
  intro X hX C Rr
  have p1 : 1 ≤ P.2.2 := Nat.one_le_iff_ne_zero.mpr (fun z => p0 (wP.2.2.1.mp z))
  have q1 : 1 ≤ Q.2.2 := Nat.one_le_iff_ne_zero.mpr (fun z => q0 (wQ.2.2.1.mp z))
  have hP5 := wP.2.1
  have hQ5 := wQ.2.1
  have hmx : P.2.2 ≤ max P.2.2 Q.2.2 ∧ Q.2.2 ≤ max P.2.2 Q.2.2 ∧ max P.2.2 Q.2.2 ≤ 5 := by omega
  have top := jTop wP wQ p1 q1
  have hjn := joinT_ne p0 q0
  generalize hH : max P.2.2 Q.2.2 = H at hmx top hjn
  have loop : ∀ i, i ≤ H → ∀ w1, 1 ≤ i → Sm w w1 t (t + 16) → TreeV w1 t (jS P Q i) H → V X w1 0 0 [some (.ref t), some (.ref tp), some (.ref tq), some (.int (nI (jUp P.2.1 Q.2.1 i).2.1)), some (.int (nI (jUp P.2.1 Q.2.1 i).2.2)), some (.int (nI (i + 1))), none, none, none, none, none] [] 159 := by
    refine upto _ (fun i hi ih w1 i1 hS hT1 => ?_)
    have hP1 := hP.sm hS (by omega)
    have hQ1 := hQ.sm hS (by omega)
    have hok := jUp_ok wP wQ p1 q1 (i - 1)
    rw [show i - 1 + 1 = i by omega] at hok
    obtain ⟨j1, j2, j3, j4⟩ := id hok
    have lpi := wf_len wP i
    have lqi := wf_len wQ i
    have lpi1 := wf_len wP (i + 1)
    have lqi1 := wf_len wQ (i + 1)
    refine g_ld C d_Tree_meetRoots_159 rfl ?_
    refine g_aldn C d_Tree_meetRoots_161 rfl ?_
    refine t_hei C d_Tree_meetRoots_162 fl_Tree_18 (by assumption) ?_
    refine g_icmp_gt C 335 d_Tree_meetRoots_165 (by decide) (by first | exact nI_toInt (by omega) | rfl) (by first | exact nI_toInt (by omega) | rfl) (fun b165 => ?_) (fun b165 => ?_)
    · have e : i = H := by omega
      subst e
      refine g_ld C d_Tree_meetRoots_335 rfl ?_
      refine g_iconst (v := nI 2) C d_Tree_meetRoots_337 rfl ?_
      refine g_icmp_ne C 345 d_Tree_meetRoots_338 (by decide) (by first | exact nI_toInt (by omega) | rfl) (by first | exact nI_toInt (by omega) | rfl) (fun b338 => ?_) (fun b338 => ?_)
      · have hm : ¬ (jUp P.2.1 Q.2.1 i).2.2 = 2 := by omega
        refine g_vret C Rr d_Tree_meetRoots_345 (by decide) (by decide) ⟨rfl, hS, hT1.congr (fun k hk => ?_) (by rw [hjn, if_neg hm])⟩
        unfold trs jS
        rw [hjn]
        simp only
        by_cases c0 : k = 0
        · rw [if_pos c0, if_pos c0]
        · rw [if_neg c0, if_neg c0, if_neg c0]
          by_cases c1 : k < i
          · rw [if_pos c1, if_pos c1]
          · rw [if_neg c1, if_neg c1]
            by_cases c2 : k = i
            · rw [if_pos c2, if_pos c2]
            · rw [if_neg c2, if_neg c2, if_neg (fun z => hm z.2)]; rfl
      · have hm : (jUp P.2.1 Q.2.1 i).2.2 = 2 := by omega
        have e1 : jS P Q i (i + 1) = [] := by unfold jS; rw [if_neg (by omega), if_neg (by omega), if_neg (by omega)]
        have e2 : (jS P Q i i).length = 2 := by unfold jS; rw [if_neg (by omega), if_neg (by omega), if_pos rfl, List.length_map, top, hm]
        refine g_aldn C d_Tree_meetRoots_341 rfl ?_
        refine g_callV (ci := kTree) C d_Tree_meetRoots_342 cw_Tree_44 sl_Tree_setRootOnTop (c_Tree_setRootOnTop X.1 w1 t _ i (by omega) (by rw [e1]; decide) hT1) rfl hT1.1 (As := []) rfl rfl rfl (Nat.le_of_ble_eq_true rfl) ⟨rfl, rfl, by decide, by decide⟩ ⟨by decide, by decide⟩ (kV (fun w2 h2 => ?_))
        rw [e1, e2] at h2
        refine g_vret C Rr d_Tree_meetRoots_345 (by decide) (by decide) ⟨rfl, hS.trans h2.1, h2.2.congr (fun k hk => ?_) (by rw [hjn, if_pos hm])⟩
        unfold trs
        rw [hjn]
        simp only
        by_cases c3 : k = i + 1
        · subst c3
          rw [va_up_self, if_neg (by omega), if_neg (by omega), if_neg (by omega), if_neg (by omega), if_pos ⟨rfl, hm⟩]
          rfl
        · rw [va_up_ne _ _ c3]
          unfold jS
          by_cases c0 : k = 0
          · rw [if_pos c0, if_pos c0]
          · rw [if_neg c0, if_neg c0, if_neg c0]
            by_cases c1 : k < i
            · rw [if_pos c1, if_pos c1]
            · rw [if_neg c1, if_neg c1]
              by_cases c2 : k = i
              · rw [if_pos c2, if_pos c2]
              · rw [if_neg c2, if_neg c2, if_neg (fun z => c3 z.1)]; rfl
    · obtain ⟨a1, a2, a3, a4, a5, a6, a7, a8, a9⟩ := jPk_ok wP wQ i1 hok
      have oP := wf_okR wP (i + 1)
      have oQ := wf_okR wQ (i + 1)
      have e4 := (ok_end oP).1
      have b4 := (ok_beg oQ).1
      have cP : (P.2.1 (i + 1)).length ≤ P.1.length := by
        by_cases e : i + 1 ≤ P.2.2
        · have := wf_cn_le wP (i + 1) e; rw [cn_p P (by omega)] at this; exact this
        · rw [wP.2.2.2.1 (i + 1) (by omega)]; simp
      have cQ : (Q.2.1 (i + 1)).length ≤ Q.1.length := by
        by_cases e : i + 1 ≤ Q.2.2
        · have := wf_cn_le wQ (i + 1) e; rw [cn_p Q (by omega)] at this; exact this
        · rw [wQ.2.2.2.1 (i + 1) (by omega)]; simp
      have rP := hP1.2.2 (i + 1) (by omega)
      rw [trs_p P (by omega)] at rP
      have rQ := hQ1.2.2 (i + 1) (by omega)
      rw [trs_p Q (by omega)] at rQ
      have rI := hT1.2.2 i (by omega)
      have eI : jS P Q i i = (jUp P.2.1 Q.2.1 i).1.map nI := by unfold jS; rw [if_neg (by omega), if_neg (by omega), if_pos rfl]
      rw [eI] at rI
      refine g_aldn C d_Tree_meetRoots_168 rfl ?_
      refine t_rows C d_Tree_meetRoots_169 fl_Tree_11 (by assumption) ?_
      refine g_ld C d_Tree_meetRoots_172 rfl ?_
      refine t_aald C d_Tree_meetRoots_174 (by assumption) (by omega) ?_
      refine g_ast C [_, _, _, _, _, _, _, _, _, _, _] d_Tree_meetRoots_175 (Nat.le_of_ble_eq_true rfl) rfl ?_
      refine g_aldn C d_Tree_meetRoots_177 rfl ?_
      refine t_rows C d_Tree_meetRoots_178 fl_Tree_11 (by assumption) ?_
      refine g_ld C d_Tree_meetRoots_181 rfl ?_
      refine t_aald C d_Tree_meetRoots_183 (by assumption) (by omega) ?_
      refine g_ast C [_, _, _, _, _, _, _, _, _, _, _] d_Tree_meetRoots_184 (Nat.le_of_ble_eq_true rfl) rfl ?_
      refine g_ldn C d_Tree_meetRoots_186 rfl ?_
      refine g_ald C d_Tree_meetRoots_187 rfl ?_
      refine g_ald C d_Tree_meetRoots_189 rfl ?_
      refine t_cnt C d_Tree_meetRoots_191 fn_Tree_22 (by assumption) (by omega) ?_
      rw [trs_p P (by omega), List.length_map]
      refine g_iconst (v := nI 1) C d_Tree_meetRoots_194 rfl ?_
      refine g_sub C d_Tree_meetRoots_195 ?_
      refine g_callV (ci := kRow) C d_Tree_meetRoots_196 cw_Tree_25 sl_Row_cell (c_Row_cell X.1 w1 (tp + 2 + 2 * (i + 1)) _ (nI (P.2.1 (i + 1)).length - nI 1) rP) rfl rP.cell (As := [.int (nI (P.2.1 (i + 1)).length - nI 1)]) rfl rfl rfl (Nat.le_of_ble_eq_true rfl) ⟨rfl, rfl, by decide, by decide⟩ ⟨by decide, by decide⟩ (kI (fun r w2 h2 => ?_))
      obtain ⟨rfl, rfl⟩ := h2
      rw [endOf_cell' lpi1]
      refine g_callS C d_Tree_meetRoots_199 cw_Tree_74 ss_Tree_allButOne (c_Tree_allButOne X.1 w2 (endOf (P.2.1 (i + 1))) (by omega)) (As := [.int (nI (endOf (P.2.1 (i + 1))))]) rfl rfl rfl (Nat.le_of_ble_eq_true rfl) ⟨rfl, rfl, by decide, by decide⟩ ⟨by decide, by decide⟩ (kI (fun r w3 h3 => ?_))
      obtain ⟨rfl, rfl⟩ := h3
      first | refine g_subN C d_Tree_meetRoots_202 (by omega) ?_ | refine g_sub C d_Tree_meetRoots_202 ?_
      refine g_st C [_, _, _, _, _, _, _, _, _, _, _] d_Tree_meetRoots_203 (Nat.le_of_ble_eq_true rfl) rfl ?_
      refine g_ldn C d_Tree_meetRoots_205 rfl ?_
      refine g_ld C d_Tree_meetRoots_206 rfl ?_
      first | refine g_addN C d_Tree_meetRoots_208 ?_ | refine g_add C d_Tree_meetRoots_208 ?_
      refine g_ald C d_Tree_meetRoots_209 rfl ?_
      refine g_iconst (v := nI 0) C d_Tree_meetRoots_211 rfl ?_
      refine g_callV (ci := kRow) C d_Tree_meetRoots_212 cw_Tree_25 sl_Row_cell (c_Row_cell X.1 w3 (tq + 2 + 2 * (i + 1)) _ (nI 0) rQ) rfl rQ.cell (As := [.int (nI 0)]) rfl rfl rfl (Nat.le_of_ble_eq_true rfl) ⟨rfl, rfl, by decide, by decide⟩ ⟨by decide, by decide⟩ (kI (fun r w4 h4 => ?_))
      obtain ⟨rfl, rfl⟩ := h4
      rw [begOf_cell]
      refine g_callS C d_Tree_meetRoots_215 cw_Tree_74 ss_Tree_allButOne (c_Tree_allButOne X.1 w4 (begOf (Q.2.1 (i + 1))) (by omega)) (As := [.int (nI (begOf (Q.2.1 (i + 1))))]) rfl rfl rfl (Nat.le_of_ble_eq_true rfl) ⟨rfl, rfl, by decide, by decide⟩ ⟨by decide, by decide⟩ (kI (fun r w5 h5 => ?_))
      obtain ⟨rfl, rfl⟩ := h5
      first | refine g_addN C d_Tree_meetRoots_218 ?_ | refine g_add C d_Tree_meetRoots_218 ?_
      rw [show (jUp P.2.1 Q.2.1 i).2.1 + (jUp P.2.1 Q.2.1 i).2.2 + (begOf (Q.2.1 (i + 1)) - 1) = jStart (P.2.1 (i + 1)) (jUp P.2.1 Q.2.1 i).2.1 + jNum (P.2.1 (i + 1)) (Q.2.1 (i + 1)) (jUp P.2.1 Q.2.1 i).2.2 by unfold jStart jNum; omega]
      refine g_st C [_, _, _, _, _, _, _, _, _, _, _] d_Tree_meetRoots_219 (Nat.le_of_ble_eq_true rfl) rfl ?_
      refine g_aldn C d_Tree_meetRoots_221 rfl ?_
      refine t_rows C d_Tree_meetRoots_222 fl_Tree_11 (by assumption) ?_
      refine g_ld C d_Tree_meetRoots_225 rfl ?_
      refine g_iconst (v := nI 1) C d_Tree_meetRoots_227 rfl ?_
      first | refine g_subN C d_Tree_meetRoots_228 (by omega) ?_ | refine g_sub C d_Tree_meetRoots_228 ?_
      rw [Nat.add_sub_cancel]
      refine t_aald C d_Tree_meetRoots_229 (by assumption) (by omega) ?_
      refine g_ld C d_Tree_meetRoots_230 rfl ?_
      refine g_ld C d_Tree_meetRoots_232 rfl ?_
      refine g_callV (ci := kRow) C d_Tree_meetRoots_234 cw_Tree_77 sl_Row_pack (c_Row_pack X.1 w5 (t + 2 + 2 * i) (jStart (P.2.1 (i + 1)) (jUp P.2.1 Q.2.1 i).2.1) (jNum (P.2.1 (i + 1)) (Q.2.1 (i + 1)) (jUp P.2.1 Q.2.1 i).2.2) (jUp P.2.1 Q.2.1 i).1 j1 a2 a3 rI) rfl rI.cell (As := [.int (nI (jStart (P.2.1 (i + 1)) (jUp P.2.1 Q.2.1 i).2.1)), .int (nI (jStart (P.2.1 (i + 1)) (jUp P.2.1 Q.2.1 i).2.1 + jNum (P.2.1 (i + 1)) (Q.2.1 (i + 1)) (jUp P.2.1 Q.2.1 i).2.2))]) rfl rfl rfl (Nat.le_of_ble_eq_true rfl) ⟨rfl, rfl, by decide, by decide⟩ ⟨by decide, by decide⟩ (kI (fun r w6 h6 => ?_))
      obtain ⟨g1, g2, rfl⟩ := h6
      rw [show pack (jUp P.2.1 Q.2.1 i).1 (jStart (P.2.1 (i + 1)) (jUp P.2.1 Q.2.1 i).2.1) (jNum (P.2.1 (i + 1)) (Q.2.1 (i + 1)) (jUp P.2.1 Q.2.1 i).2.2) = jPk P.2.1 Q.2.1 i from rfl] at g2 ⊢
      have hus := jUp_s P.2.1 Q.2.1 i1
      generalize hn : (jPk P.2.1 Q.2.1 i).2 = nn at a8 a9 hus ⊢
      have S6 := Sm.tree (k := i) (by omega) g1
      have hT6 := hT1.up (by omega) g1 g2
      have hP6 := hP1.sm S6 (by omega)
      have hQ6 := hQ1.sm S6 (by omega)
      have rP6 := rP.sm S6 (by omega)
      have rQ6 := rQ.sm S6 (by omega)
      have e7 : va_up (jS P Q i) i ((jPk P.2.1 Q.2.1 i).1.map nI) (i + 1) = [] := by rw [va_up_ne _ _ (by omega)]; unfold jS; rw [if_neg (by omega), if_neg (by omega), if_neg (by omega)]
      have rN := hT6.2.2 (i + 1) (by omega)
      rw [e7] at rN
      refine g_st C [_, _, _, _, _, _, _, _, _, _, _] d_Tree_meetRoots_237 (Nat.le_of_ble_eq_true rfl) rfl ?_
      refine g_ald C d_Tree_meetRoots_239 rfl ?_
      refine t_cnt C d_Tree_meetRoots_241 fn_Tree_22 (by assumption) (by omega) ?_
      rw [trs_p P (by omega), List.length_map]
      refine g_callS C d_Tree_meetRoots_244 cw_Tree_74 ss_Tree_allButOne (c_Tree_allButOne X.1 w6 (P.2.1 (i + 1)).length (by omega)) (As := [.int (nI (P.2.1 (i + 1)).length)]) rfl rfl rfl (Nat.le_of_ble_eq_true rfl) ⟨rfl, rfl, by decide, by decide⟩ ⟨by decide, by decide⟩ (kI (fun r w7 h7 => ?_))
      obtain ⟨rfl, rfl⟩ := h7
      refine g_stn C [_, _, _, _, _, _, _, _, _, _, _] d_Tree_meetRoots_247 (Nat.le_of_ble_eq_true rfl) rfl ?_
      refine g_ld C d_Tree_meetRoots_248 rfl ?_
      refine g_iconst (v := nI 4) C d_Tree_meetRoots_250 rfl ?_
      have K : ∀ mt : Nat, mt = (if 4 < nn then 2 else 1) → V X w7 0 0 [some (.ref t), some (.ref tp), some (.ref tq), some (.int (nI ((P.2.1 (i + 1)).length - 1))), none, some (.int (nI (i + 1))), some (.ref (tp + 2 + 2 * (i + 1))), some (.ref (tq + 2 + 2 * (i + 1))), none, none, some (.int (nI nn))] [.int (nI mt)] 259 := by
        intro mt hmt
        refine g_st C [_, _, _, _, _, _, _, _, _, _, _] d_Tree_meetRoots_259 (Nat.le_of_ble_eq_true rfl) rfl ?_
        refine g_aldn C d_Tree_meetRoots_261 rfl ?_
        refine t_rows C d_Tree_meetRoots_262 fl_Tree_11 (by assumption) ?_
        refine g_ld C d_Tree_meetRoots_265 rfl ?_
        refine t_aald C d_Tree_meetRoots_267 (by assumption) (by omega) ?_
        refine g_ald C d_Tree_meetRoots_268 rfl ?_
        refine g_iconst (v := nI 0) C d_Tree_meetRoots_270 rfl ?_
        refine g_ldn C d_Tree_meetRoots_271 rfl ?_
        refine g_callV (ci := kRow) C d_Tree_meetRoots_272 cw_Tree_36 sl_Row_addRange (c_Row_addRange X.1 w7 (t + 2 + 2 * (i + 1)) (tp + 2 + 2 * (i + 1)) [] ((P.2.1 (i + 1)).map nI) 0 ((P.2.1 (i + 1)).length - 1) (by omega) (by omega) (by omega) (by simp; omega) rN rP6) rfl rN.cell (As := [.ref (tp + 2 + 2 * (i + 1)), .int (nI 0), .int (nI ((P.2.1 (i + 1)).length - 1))]) rfl rfl rfl (Nat.le_of_ble_eq_true rfl) ⟨rfl, rfl, by decide, by decide⟩ ⟨by decide, by decide⟩ (kV (fun w8 h8 => ?_))
        have S8 := Sm.tree (k := i + 1) (by omega) h8.1
        have hT8 := hT6.up (by omega) h8.1 h8.2
        have e8 : (([] ++ (((P.2.1 (i + 1)).map nI).drop 0).take ((P.2.1 (i + 1)).length - 1 - 0) : List Int32)) = ((P.2.1 (i + 1)).take ((P.2.1 (i + 1)).length - 1)).map nI := by simp [List.map_take]
        have r8 := h8.2
        rw [e8] at r8
        have l8 : (((P.2.1 (i + 1)).take ((P.2.1 (i + 1)).length - 1)).map nI).length = (P.2.1 (i + 1)).length - 1 := by simp
        refine g_aldn C d_Tree_meetRoots_275 rfl ?_
        refine t_rows C d_Tree_meetRoots_276 fl_Tree_11 (by assumption) ?_
        refine g_ld C d_Tree_meetRoots_279 rfl ?_
        refine t_aald C d_Tree_meetRoots_281 (by assumption) (by omega) ?_
        refine g_ld C d_Tree_meetRoots_282 rfl ?_
        refine g_iconst (v := nI 4) C d_Tree_meetRoots_284 rfl ?_
        refine g_min (z := nI (min nn 4)) C d_Tree_meetRoots_285 mw_Tree_80 rfl (by decide) (Nat.le_of_ble_eq_true rfl) (by decide) (by decide) (nI_min (by omega) (by omega)) ?_
        refine g_callV (ci := kRow) C d_Tree_meetRoots_288 cw_Tree_40 sl_Row_addLast (c_Row_addLast X.1 w8 (t + 2 + 2 * (i + 1)) _ (nI (min nn 4)) (by rw [l8]; omega) r8) rfl r8.cell (As := [.int (nI (min nn 4))]) rfl rfl rfl (Nat.le_of_ble_eq_true rfl) ⟨rfl, rfl, by decide, by decide⟩ ⟨by decide, by decide⟩ (kV (fun w9 h9 => ?_))
        have S9 := Sm.tree (k := i + 1) (by omega) h9.1
        have hT9 := hT8.up (by omega) h9.1 h9.2
        have hQ9 := (hQ6.sm S8 (by omega)).sm S9 (by omega)
        have rQ9 := (rQ6.sm S8 (by omega)).sm S9 (by omega)
        have K2 : ∀ (wa : gW) (tl : List Nat), Sm w9 wa (t + 2 + 2 * (i + 1)) (t + 2 + 2 * (i + 1) + 2) → tl = (if 4 < nn then [nn - 4] else []) → RowV wa (t + 2 + 2 * (i + 1)) (((P.2.1 (i + 1)).take ((P.2.1 (i + 1)).length - 1)).map nI ++ [nI (min nn 4)] ++ tl.map nI) → V X wa 0 0 [some (.ref t), some (.ref tp), some (.ref tq), some (.int (nI ((P.2.1 (i + 1)).length - 1))), some (.int (nI mt)), some (.int (nI (i + 1))), some (.ref (tp + 2 + 2 * (i + 1))), some (.ref (tq + 2 + 2 * (i + 1))), none, none, some (.int (nI nn))] [] 311 := by
          intro wa tl hSa htl rA
          have Sa := Sm.tree (k := i + 1) (by omega) hSa
          have hTa := hT9.up (by omega) hSa rA
          have hQa := hQ9.sm Sa (by omega)
          have rQa := rQ9.sm Sa (by omega)
          have ltl : tl.length ≤ 1 := by rw [htl]; split <;> simp
          have lA : (((P.2.1 (i + 1)).take ((P.2.1 (i + 1)).length - 1)).map nI ++ [nI (min nn 4)] ++ tl.map nI).length ≤ (P.2.1 (i + 1)).length - 1 + 2 := by simp; omega
          refine g_aldn C d_Tree_meetRoots_311 rfl ?_
          refine t_rows C d_Tree_meetRoots_312 fl_Tree_11 (by assumption) ?_
          refine g_ld C d_Tree_meetRoots_315 rfl ?_
          refine t_aald C d_Tree_meetRoots_317 (by assumption) (by omega) ?_
          refine g_ald C d_Tree_meetRoots_318 rfl ?_
          refine g_iconst (v := nI 1) C d_Tree_meetRoots_320 rfl ?_
          refine g_ald C d_Tree_meetRoots_321 rfl ?_
          refine t_cnt C d_Tree_meetRoots_323 fn_Tree_22 (by assumption) (by omega) ?_
          rw [trs_p Q (by omega), List.length_map]
          refine g_callV (ci := kRow) C d_Tree_meetRoots_326 cw_Tree_36 sl_Row_addRange (c_Row_addRange X.1 wa (t + 2 + 2 * (i + 1)) (tq + 2 + 2 * (i + 1)) _ ((Q.2.1 (i + 1)).map nI) 1 (Q.2.1 (i + 1)).length (by omega) (by omega) (by omega) (by rw [List.length_map]; omega) rA rQa) rfl rA.cell (As := [.ref (tq + 2 + 2 * (i + 1)), .int (nI 1), .int (nI (Q.2.1 (i + 1)).length)]) rfl rfl rfl (Nat.le_of_ble_eq_true rfl) ⟨rfl, rfl, by decide, by decide⟩ ⟨by decide, by decide⟩ (kV (fun wb hb => ?_))
          have Sb := Sm.tree (k := i + 1) (by omega) hb.1
          have hTb := hTa.up (by omega) hb.1 hb.2
          refine g_incN C [_, _, _, _, _, _, _, _, _, _, _] d_Tree_meetRoots_329 rfl rfl ?_
          refine g_goto C 159 d_Tree_meetRoots_332 (by decide) ?_
          refine V.le (lvle.keep (lvle.keep (lvle.keep (lvle.keep (lvle.keep (lvle.keep (lvle.drop (lvle.drop (lvle.drop (lvle.drop (lvle.drop lvle.nil))))))))))) ?_
          have e9 : jUp P.2.1 Q.2.1 (i + 1) = (jRow (P.2.1 (i + 1)) (Q.2.1 (i + 1)) nn, (P.2.1 (i + 1)).length - 1, mt) := by rw [hus, hmt]
          have go := ih (i + 1) (by omega) (by omega) wb (by omega) (((((hS.trans S6).trans S8).trans S9).trans Sa).trans Sb) (hTb.congr (fun k hk => ?_) rfl)
          · rw [e9] at go
            exact go
          · by_cases c : k = i + 1
            · subst c
              rw [va_up_self]
              unfold jS
              rw [if_neg (by omega), if_neg (by omega), if_pos rfl, e9]
              unfold jRow
              rw [htl]
              rw [show (((Q.2.1 (i + 1)).map nI).drop 1).take ((Q.2.1 (i + 1)).length - 1) = ((Q.2.1 (i + 1)).map nI).drop 1 from List.take_of_length_le (by simp)]
              simp [List.map_take, List.map_drop]
            · rw [va_up_ne _ _ c, va_up_ne _ _ c, va_up_ne _ _ c, va_up_ne _ _ c]
              by_cases c1 : k = i
              · subst c1
                rw [va_up_self]; unfold jS; rw [if_neg (by omega), if_pos (by omega)]
              · rw [va_up_ne _ _ c1]
                unfold jS
                by_cases c0 : k = 0
                · rw [if_pos c0, if_pos c0]
                · rw [if_neg c0, if_neg c0]
                  by_cases c2 : k < i
                  · rw [if_pos c2, if_pos (by omega)]
                  · rw [if_neg c2, if_neg c1, if_neg (by omega), if_neg c]
        refine g_ld C d_Tree_meetRoots_291 rfl ?_
        refine g_iconst (v := nI 2) C d_Tree_meetRoots_293 rfl ?_
        refine g_icmp_ne C 311 d_Tree_meetRoots_294 (by decide) (nI_toInt (by rw [hmt]; split <;> omega)) (by first | exact nI_toInt (by omega) | rfl) (fun b294 => ?_) (fun b294 => ?_)
        · have h4n : ¬ 4 < nn := by intro z; rw [if_pos z] at hmt; omega
          refine K2 w9 [] Sm.rf (by rw [if_neg h4n]) ?_
          simpa using h9.2
        · have h4n : 4 < nn := by
            apply Classical.byContradiction
            intro z
            rw [if_neg z] at hmt
            omega
          refine g_aldn C d_Tree_meetRoots_297 rfl ?_
          refine t_rows C d_Tree_meetRoots_298 fl_Tree_11 (by assumption) ?_
          refine g_ld C d_Tree_meetRoots_301 rfl ?_
          refine t_aald C d_Tree_meetRoots_303 (by assumption) (by omega) ?_
          refine g_ld C d_Tree_meetRoots_304 rfl ?_
          refine g_iconst (v := nI 4) C d_Tree_meetRoots_306 rfl ?_
          first | refine g_subN C d_Tree_meetRoots_307 (by omega) ?_ | refine g_sub C d_Tree_meetRoots_307 ?_
          refine g_callV (ci := kRow) C d_Tree_meetRoots_308 cw_Tree_40 sl_Row_addLast (c_Row_addLast X.1 w9 (t + 2 + 2 * (i + 1)) _ (nI (nn - 4)) (by simp; omega) h9.2) rfl h9.2.cell (As := [.int (nI (nn - 4))]) rfl rfl rfl (Nat.le_of_ble_eq_true rfl) ⟨rfl, rfl, by decide, by decide⟩ ⟨by decide, by decide⟩ (kV (fun wa ha => ?_))
          exact K2 wa [nn - 4] ha.1 (by rw [if_pos h4n]) ha.2
      refine g_icmp_le C 258 d_Tree_meetRoots_251 (by decide) (by first | exact nI_toInt (by omega) | rfl) (by first | exact nI_toInt (by omega) | rfl) (fun b251 => ?_) (fun b251 => ?_)
      · refine g_iconst (v := nI 1) C d_Tree_meetRoots_258 rfl ?_
        refine V.le (lvle.keep (lvle.keep (lvle.keep (lvle.keep (lvle.drop (lvle.keep (lvle.keep (lvle.keep (lvle.drop (lvle.drop (lvle.keep lvle.nil))))))))))) ?_
        exact K 1 (by rw [if_neg (by omega)])
      · refine g_iconst (v := nI 2) C d_Tree_meetRoots_254 rfl ?_
        refine g_goto C 259 d_Tree_meetRoots_255 (by decide) ?_
        refine V.le (lvle.keep (lvle.keep (lvle.keep (lvle.keep (lvle.drop (lvle.keep (lvle.keep (lvle.keep (lvle.drop (lvle.drop (lvle.keep lvle.nil))))))))))) ?_
        exact K 2 (by rw [if_pos (by omega)])
  have clr : ∀ i, i ≤ 7 → ∀ w1, Sm w w1 t (t + 16) → TreeV w1 t (fun k => if k < i then [] else rs k) h0 → V X w1 0 0 [some (.ref t), some (.ref tp), some (.ref tq), some (.int (nI i)), none, none, none, none, none, none, none] [] 2 := by
    refine upto _ (fun i hi ih w1 hS hT1 => ?_)
    refine g_ldn C d_Tree_meetRoots_2 rfl ?_
    refine g_aldn C d_Tree_meetRoots_3 rfl ?_
    refine t_rows C d_Tree_meetRoots_4 fl_Tree_11 (by assumption) ?_
    refine t_alen C d_Tree_meetRoots_7 hT1 ?_
    refine g_icmp_ge C 26 d_Tree_meetRoots_8 (by decide) (by first | exact nI_toInt (by omega) | rfl) (by first | exact nI_toInt (by omega) | rfl) (fun b8 => ?_) (fun b8 => ?_)
    · have e : i = 7 := by omega
      subst e
      have hT1 : TreeV w1 t (fun _ => []) h0 := hT1.congr (fun k hk => by rw [if_pos hk]) rfl
      have hP1 := hP.sm hS (by omega)
      have hQ1 := hQ.sm hS (by omega)
      have lP1 := wf_len wP 1
      have lQ1 := wf_len wQ 1
      have nP1 := wf_ne wP (k := 1) (by omega) p1
      have cP : (P.2.1 1).length ≤ P.1.length := by have := wf_cn_le wP 1 p1; rw [cn_p P (by omega)] at this; exact this
      have cQ : (Q.2.1 1).length ≤ Q.1.length := by have := wf_cn_le wQ 1 q1; rw [cn_p Q (by omega)] at this; exact this
      have t0P : trs P 0 = P.1 := rfl
      have t0Q : trs Q 0 = Q.1 := rfl
      have t1P : trs P 1 = (P.2.1 1).map nI := rfl
      have t1Q : trs Q 1 = (Q.2.1 1).map nI := rfl
      refine g_aldn C d_Tree_meetRoots_26 rfl ?_
      refine t_rows C d_Tree_meetRoots_27 fl_Tree_11 (by assumption) ?_
      refine g_iconst (v := nI 0) C d_Tree_meetRoots_30 rfl ?_
      refine t_aald C d_Tree_meetRoots_31 (by assumption) (by omega) ?_
      refine g_aldn C d_Tree_meetRoots_32 rfl ?_
      refine t_rows C d_Tree_meetRoots_33 fl_Tree_11 (by assumption) ?_
      refine g_iconst (v := nI 0) C d_Tree_meetRoots_36 rfl ?_
      refine t_aald C d_Tree_meetRoots_37 (by assumption) (by omega) ?_
      refine g_iconst (v := nI 0) C d_Tree_meetRoots_38 rfl ?_
      refine g_aldn C d_Tree_meetRoots_39 rfl ?_
      refine t_rows C d_Tree_meetRoots_40 fl_Tree_11 (by assumption) ?_
      refine g_iconst (v := nI 0) C d_Tree_meetRoots_43 rfl ?_
      refine t_aald C d_Tree_meetRoots_44 (by assumption) (by omega) ?_
      refine t_cnt C d_Tree_meetRoots_45 fn_Tree_22 (by assumption) (by omega) ?_
      refine g_callV (ci := kRow) C d_Tree_meetRoots_48 cw_Tree_36 sl_Row_addRange (c_Row_addRange X.1 w1 (t + 2 + 2 * 0) (tp + 2 + 2 * 0) [] P.1 0 P.1.length (by omega) (by omega) (by omega) (by simp; omega) (hT1.2.2 0 (by omega)) (hP1.2.2 0 (by omega))) rfl (hT1.2.2 0 (by omega)).cell (As := [.ref (tp + 2 + 2 * 0), .int (nI 0), .int (nI P.1.length)]) rfl rfl rfl (Nat.le_of_ble_eq_true rfl) ⟨rfl, rfl, by decide, by decide⟩ ⟨by decide, by decide⟩ (kV (fun w2 h2 => ?_))
      have S2 := Sm.tree (k := 0) (by omega) h2.1
      have e2 : ([] ++ (P.1.drop 0).take (P.1.length - 0) : List Int32) = P.1 := by simp
      rw [e2] at h2
      have hT2 := hT1.up (by omega) h2.1 h2.2
      have hP2 := hP1.sm S2 (by omega)
      have hQ2 := hQ1.sm S2 (by omega)
      refine g_aldn C d_Tree_meetRoots_51 rfl ?_
      refine t_rows C d_Tree_meetRoots_52 fl_Tree_11 (by assumption) ?_
      refine g_iconst (v := nI 0) C d_Tree_meetRoots_55 rfl ?_
      refine t_aald C d_Tree_meetRoots_56 (by assumption) (by omega) ?_
      refine g_aldn C d_Tree_meetRoots_57 rfl ?_
      refine t_rows C d_Tree_meetRoots_58 fl_Tree_11 (by assumption) ?_
      refine g_iconst (v := nI 0) C d_Tree_meetRoots_61 rfl ?_
      refine t_aald C d_Tree_meetRoots_62 (by assumption) (by omega) ?_
      refine g_iconst (v := nI 0) C d_Tree_meetRoots_63 rfl ?_
      refine g_aldn C d_Tree_meetRoots_64 rfl ?_
      refine t_rows C d_Tree_meetRoots_65 fl_Tree_11 (by assumption) ?_
      refine g_iconst (v := nI 0) C d_Tree_meetRoots_68 rfl ?_
      refine t_aald C d_Tree_meetRoots_69 (by assumption) (by omega) ?_
      refine t_cnt C d_Tree_meetRoots_70 fn_Tree_22 (by assumption) (by omega) ?_
      refine g_callV (ci := kRow) C d_Tree_meetRoots_73 cw_Tree_36 sl_Row_addRange (c_Row_addRange X.1 w2 (t + 2 + 2 * 0) (tq + 2 + 2 * 0) P.1 Q.1 0 Q.1.length (by omega) (by omega) (by omega) (by simp; omega) h2.2 (hQ2.2.2 0 (by omega))) rfl h2.2.cell (As := [.ref (tq + 2 + 2 * 0), .int (nI 0), .int (nI Q.1.length)]) rfl rfl rfl (Nat.le_of_ble_eq_true rfl) ⟨rfl, rfl, by decide, by decide⟩ ⟨by decide, by decide⟩ (kV (fun w3 h3 => ?_))
      have S3 := Sm.tree (k := 0) (by omega) h3.1
      have e3 : (P.1 ++ (Q.1.drop 0).take (Q.1.length - 0) : List Int32) = P.1 ++ Q.1 := by simp
      rw [e3] at h3
      have hT3 := hT2.up (by omega) h3.1 h3.2
      have hP3 := hP2.sm S3 (by omega)
      have hQ3 := hQ2.sm S3 (by omega)
      have r3 := hT3.2.2 1 (by omega)
      rw [va_up_ne _ _ (by omega), va_up_ne _ _ (by omega)] at r3
      have rP3 := hP3.2.2 1 (by omega)
      rw [t1P] at rP3
      refine g_aldn C d_Tree_meetRoots_76 rfl ?_
      refine t_rows C d_Tree_meetRoots_77 fl_Tree_11 (by assumption) ?_
      refine g_iconst (v := nI 1) C d_Tree_meetRoots_80 rfl ?_
      refine t_aald C d_Tree_meetRoots_81 (by assumption) (by omega) ?_
      refine g_aldn C d_Tree_meetRoots_82 rfl ?_
      refine t_rows C d_Tree_meetRoots_83 fl_Tree_11 (by assumption) ?_
      refine g_iconst (v := nI 1) C d_Tree_meetRoots_86 rfl ?_
      refine t_aald C d_Tree_meetRoots_87 (by assumption) (by omega) ?_
      refine g_iconst (v := nI 0) C d_Tree_meetRoots_88 rfl ?_
      refine g_aldn C d_Tree_meetRoots_89 rfl ?_
      refine t_rows C d_Tree_meetRoots_90 fl_Tree_11 (by assumption) ?_
      refine g_iconst (v := nI 1) C d_Tree_meetRoots_93 rfl ?_
      refine t_aald C d_Tree_meetRoots_94 (by assumption) (by omega) ?_
      refine t_cnt C d_Tree_meetRoots_95 fn_Tree_22 (by assumption) (by omega) ?_
      rw [t1P, List.length_map]
      refine g_callV (ci := kRow) C d_Tree_meetRoots_98 cw_Tree_36 sl_Row_addRange (c_Row_addRange X.1 w3 (t + 2 + 2 * 1) (tp + 2 + 2 * 1) [] ((P.2.1 1).map nI) 0 (P.2.1 1).length (by omega) (by omega) (by omega) (by simp; omega) r3 rP3) rfl r3.cell (As := [.ref (tp + 2 + 2 * 1), .int (nI 0), .int (nI (P.2.1 1).length)]) rfl rfl rfl (Nat.le_of_ble_eq_true rfl) ⟨rfl, rfl, by decide, by decide⟩ ⟨by decide, by decide⟩ (kV (fun w4 h4 => ?_))
      have S4 := Sm.tree (k := 1) (by omega) h4.1
      have e4 : ([] ++ (((P.2.1 1).map nI).drop 0).take ((P.2.1 1).length - 0) : List Int32) = (P.2.1 1).map nI := by simp only [List.nil_append, List.drop_zero, Nat.sub_zero]; exact List.take_of_length_le (by simp)
      rw [e4] at h4
      have hT4 := hT3.up (by omega) h4.1 h4.2
      have hP4 := hP3.sm S4 (by omega)
      have hQ4 := hQ3.sm S4 (by omega)
      have rQ4 := hQ4.2.2 1 (by omega)
      rw [t1Q] at rQ4
      refine g_aldn C d_Tree_meetRoots_101 rfl ?_
      refine t_rows C d_Tree_meetRoots_102 fl_Tree_11 (by assumption) ?_
      refine g_iconst (v := nI 1) C d_Tree_meetRoots_105 rfl ?_
      refine t_aald C d_Tree_meetRoots_106 (by assumption) (by omega) ?_
      refine g_aldn C d_Tree_meetRoots_107 rfl ?_
      refine t_rows C d_Tree_meetRoots_108 fl_Tree_11 (by assumption) ?_
      refine g_iconst (v := nI 1) C d_Tree_meetRoots_111 rfl ?_
      refine t_aald C d_Tree_meetRoots_112 (by assumption) (by omega) ?_
      refine g_iconst (v := nI 0) C d_Tree_meetRoots_113 rfl ?_
      refine g_aldn C d_Tree_meetRoots_114 rfl ?_
      refine t_rows C d_Tree_meetRoots_115 fl_Tree_11 (by assumption) ?_
      refine g_iconst (v := nI 1) C d_Tree_meetRoots_118 rfl ?_
      refine t_aald C d_Tree_meetRoots_119 (by assumption) (by omega) ?_
      refine t_cnt C d_Tree_meetRoots_120 fn_Tree_22 (by assumption) (by omega) ?_
      rw [t1Q, List.length_map]
      refine g_callV (ci := kRow) C d_Tree_meetRoots_123 cw_Tree_36 sl_Row_addRange (c_Row_addRange X.1 w4 (t + 2 + 2 * 1) (tq + 2 + 2 * 1) ((P.2.1 1).map nI) ((Q.2.1 1).map nI) 0 (Q.2.1 1).length (by omega) (by omega) (by omega) (by simp; omega) h4.2 rQ4) rfl h4.2.cell (As := [.ref (tq + 2 + 2 * 1), .int (nI 0), .int (nI (Q.2.1 1).length)]) rfl rfl rfl (Nat.le_of_ble_eq_true rfl) ⟨rfl, rfl, by decide, by decide⟩ ⟨by decide, by decide⟩ (kV (fun w5 h5 => ?_))
      have S5 := Sm.tree (k := 1) (by omega) h5.1
      have hT5 := hT4.up (by omega) h5.1 h5.2
      have hP5' := hP4.sm S5 (by omega)
      have hQ5' := hQ4.sm S5 (by omega)
      have hT6 := hT5.hei (h' := H)
      refine g_aldn C d_Tree_meetRoots_126 rfl ?_
      refine t_rows C d_Tree_meetRoots_127 fl_Tree_11 (by assumption) ?_
      refine g_iconst (v := nI 1) C d_Tree_meetRoots_130 rfl ?_
      refine t_aald C d_Tree_meetRoots_131 (by assumption) (by omega) ?_
      refine t_cnt C d_Tree_meetRoots_132 fn_Tree_22 (by assumption) (by omega) ?_
      rw [t1P, List.length_map]
      refine g_iconst (v := nI 1) C d_Tree_meetRoots_135 rfl ?_
      first | refine g_subN C d_Tree_meetRoots_136 (by omega) ?_ | refine g_sub C d_Tree_meetRoots_136 ?_
      refine g_stn C [_, _, _, _, _, _, _, _, _, _, _] d_Tree_meetRoots_137 (Nat.le_of_ble_eq_true rfl) rfl ?_
      refine g_iconst (v := nI 2) C d_Tree_meetRoots_138 rfl ?_
      refine g_st C [_, _, _, _, _, _, _, _, _, _, _] d_Tree_meetRoots_139 (Nat.le_of_ble_eq_true rfl) rfl ?_
      refine g_aldn C d_Tree_meetRoots_141 rfl ?_
      refine g_aldn C d_Tree_meetRoots_142 rfl ?_
      refine t_hei C d_Tree_meetRoots_143 fl_Tree_18 (by assumption) ?_
      refine g_aldn C d_Tree_meetRoots_146 rfl ?_
      refine t_hei C d_Tree_meetRoots_147 fl_Tree_18 (by assumption) ?_
      refine g_max (z := nI (max P.2.2 Q.2.2)) C d_Tree_meetRoots_150 mw_Tree_68 rfl (by decide) (Nat.le_of_ble_eq_true rfl) (by decide) (by decide) (nI_max (by omega) (by omega)) ?_
      rw [hH]
      refine g_put C d_Tree_meetRoots_153 fl_Tree_18 ft_Tree (ty := .int) ⟨_, _, _, rfl, rfl, by decide +kernel⟩ hT5.1 rfl rfl (Nat.le_of_ble_eq_true rfl) rfl ?_
      refine g_iconst (v := nI 2) C d_Tree_meetRoots_156 rfl ?_
      refine g_st C [_, _, _, _, _, _, _, _, _, _, _] d_Tree_meetRoots_157 (Nat.le_of_ble_eq_true rfl) rfl ?_
      refine loop 1 (by omega) _ (Nat.le_refl _) (((((hS.trans S2).trans S3).trans S4).trans S5).trans (Sm.set (by omega) (by omega))) (hT6.congr (fun k hk => ?_) rfl)
      unfold jS
      by_cases c0 : k = 0
      · subst c0; rw [if_pos rfl, va_up_ne _ _ (by omega), va_up_ne _ _ (by omega), va_up_self]
      · rw [if_neg c0, if_neg (by omega)]
        by_cases c1 : k = 1
        · subst c1; rw [if_pos rfl, va_up_self, List.drop_zero, Nat.sub_zero, List.take_of_length_le (show ((Q.2.1 1).map nI).length ≤ (Q.2.1 1).length by simp)]; simp [jUp]
        · rw [if_neg c1, va_up_ne _ _ c1, va_up_ne _ _ c1, va_up_ne _ _ c0, va_up_ne _ _ c0]
    · have rI := hT1.2.2 i (by omega)
      refine g_aldn C d_Tree_meetRoots_11 rfl ?_
      refine t_rows C d_Tree_meetRoots_12 fl_Tree_11 (by assumption) ?_
      refine g_ldn C d_Tree_meetRoots_15 rfl ?_
      refine t_aald C d_Tree_meetRoots_16 (by assumption) (by omega) ?_
      refine g_callV (ci := kRow) C d_Tree_meetRoots_17 cw_Tree_33 sl_Row_clear (c_Row_clear X.1 w1 (t + 2 + 2 * i) _ rI) rfl rI.cell (As := []) rfl rfl rfl (Nat.le_of_ble_eq_true rfl) ⟨rfl, rfl, by decide, by decide⟩ ⟨by decide, by decide⟩ (kV (fun w2 h2 => ?_))
      have hT2 := hT1.up (by omega) h2.1 h2.2
      refine g_incN C [_, _, _, _, _, _, _, _, _, _, _] d_Tree_meetRoots_20 rfl rfl ?_
      refine g_goto C 2 d_Tree_meetRoots_23 (by decide) ?_
      refine ih (i + 1) (by omega) (by omega) w2 (hS.trans (Sm.tree (k := i) (by omega) h2.1)) (hT2.congr (fun k hk => ?_) rfl)
      by_cases c : k = i
      · subst c; rw [va_up_self, if_pos (by omega)]
      · rw [va_up_ne _ _ c]
        by_cases c1 : k < i
        · rw [if_pos (by omega), if_pos c1]
        · rw [if_neg (by omega), if_neg c1]
  refine g_iconst (v := nI 0) C d_Tree_meetRoots_0 rfl ?_
  refine g_stn C [_, _, _, _, _, _, _, _, _, _, _] d_Tree_meetRoots_1 (Nat.le_of_ble_eq_true rfl) rfl ?_
  exact clr 0 (by omega) w Sm.rf (hT.congr (fun k hk => by rw [if_neg (by omega)]) rfl)
set_option maxRecDepth 100000 in
set_option maxHeartbeats 4000000 in
theorem c_Tree_join (N : gN) (w : gW) (t tp tq : Nat) (rs : Nat → List Int32) (h0 : Nat) (P Q : Tr) (d1 : t + 16 ≤ tp ∨ tp + 16 ≤ t) (d2 : t + 16 ≤ tq ∨ tq + 16 ≤ t) (hl : P.1.length + Q.1.length ≤ 80) (wP : wfT 5 P) (wQ : wfT 5 Q) (hT : TreeV w t rs h0) (hP : TreeV w tp (trs P) P.2.2) (hQ : TreeV w tq (trs Q) Q.2.2) : CtN N y_Tree_join b_Tree_join 3 none (rmm 5 140 0 0) [.ref t, .ref tp, .ref tq] w (pV (fun w' => Sm w w' t (t + 16) ∧ TreeV w' t (trs (joinT P Q)) (joinT P Q).2.2)) 0 0 := by
  refine ct_intro N [some (.ref t), some (.ref tp), some (.ref tq)] (by decide) rfl (Nat.le_of_ble_eq_true rfl) (by simp [Value.category]) ?_
  intro X hX C Rr
  have t0P : trs P 0 = P.1 := rfl
  have t0Q : trs Q 0 = Q.1 := rfl
  refine g_aldn C d_Tree_join_0 rfl ?_
  refine g_callV (ci := kTree) C d_Tree_join_1 cw_Tree_56 sl_Tree_length (c_Tree_length X.1 w tp _ _ hP) rfl hP.1 (As := []) rfl rfl rfl (Nat.le_of_ble_eq_true rfl) ⟨rfl, rfl, by decide, by decide⟩ ⟨by decide, by decide⟩ (kI (fun r w2 h2 => ?_))
  obtain ⟨rfl, rfl⟩ := h2
  rw [t0P]
  refine g_if_ne C 15 d_Tree_join_4 (by decide) (by first | exact nI_toInt (by omega) | rfl) (fun b4 => ?_) (fun b4 => ?_)
  · refine g_aldn C d_Tree_join_15 rfl ?_
    refine g_callV (ci := kTree) C d_Tree_join_16 cw_Tree_56 sl_Tree_length (c_Tree_length X.1 w2 tq _ _ hQ) rfl hQ.1 (As := []) rfl rfl rfl (Nat.le_of_ble_eq_true rfl) ⟨rfl, rfl, by decide, by decide⟩ ⟨by decide, by decide⟩ (kI (fun r w3 h3 => ?_))
    obtain ⟨rfl, rfl⟩ := h3
    rw [t0Q]
    refine g_if_ne C 30 d_Tree_join_19 (by decide) (by first | exact nI_toInt (by omega) | rfl) (fun b19 => ?_) (fun b19 => ?_)
    · refine g_aldn C d_Tree_join_30 rfl ?_
      refine g_aldn C d_Tree_join_31 rfl ?_
      refine g_aldn C d_Tree_join_32 rfl ?_
      refine g_callV (ci := kTree) C d_Tree_join_33 cw_Tree_64 sl_Tree_meetRoots (c_Tree_meetRoots X.1 w3 t tp tq rs h0 P Q d1 d2 hl (by omega) (by omega) wP wQ hT hP hQ) rfl hT.1 (As := [.ref tp, .ref tq]) rfl rfl rfl (Nat.le_of_ble_eq_true rfl) ⟨rfl, rfl, by decide, by decide⟩ ⟨by decide, by decide⟩ (kV (fun w4 h4 => ?_))
      exact g_vret C Rr d_Tree_join_36 (by decide) (by decide) ⟨rfl, h4⟩
    · have e : joinT P Q = P := by unfold joinT; rw [if_neg (by omega), if_pos (by omega)]
      refine g_aldn C d_Tree_join_22 rfl ?_
      refine g_aldn C d_Tree_join_23 rfl ?_
      refine g_callV (ci := kTree) C d_Tree_join_24 cw_Tree_60 sl_Tree_become (c_Tree_become X.1 w3 t tp rs (trs P) h0 P.2.2 d1 hT hP) rfl hT.1 (As := [.ref tp]) rfl rfl rfl (Nat.le_of_ble_eq_true rfl) ⟨rfl, rfl, by decide, by decide⟩ ⟨by decide, by decide⟩ (kV (fun w4 h4 => ?_))
      refine g_goto C 36 d_Tree_join_27 (by decide) ?_
      exact g_vret C Rr d_Tree_join_36 (by decide) (by decide) ⟨rfl, by rw [e]; exact h4⟩
  · have e : joinT P Q = Q := by unfold joinT; rw [if_pos (by omega)]
    refine g_aldn C d_Tree_join_7 rfl ?_
    refine g_aldn C d_Tree_join_8 rfl ?_
    refine g_callV (ci := kTree) C d_Tree_join_9 cw_Tree_60 sl_Tree_become (c_Tree_become X.1 w2 t tq rs (trs Q) h0 Q.2.2 d2 hT hQ) rfl hT.1 (As := [.ref tq]) rfl rfl rfl (Nat.le_of_ble_eq_true rfl) ⟨rfl, rfl, by decide, by decide⟩ ⟨by decide, by decide⟩ (kV (fun w4 h4 => ?_))
    refine g_goto C 36 d_Tree_join_12 (by decide) ?_
    exact g_vret C Rr d_Tree_join_36 (by decide) (by decide) ⟨rfl, by rw [e]; exact h4⟩
