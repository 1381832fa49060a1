/-! THE CLASS: its public calls. -/
theorem wf_up {M m : Nat} {T : Tr} (h : wfT M T) (hm : M ≤ m) : wfT m T := wf_low h (Nat.le_trans h.2.1 hm)
theorem nI_tn {a : Nat} (h : a < 2 ^ 31) : (nI a).toInt.toNat = a := by rw [nI_toInt h]; rfl
theorem rfs_cases (S : St) (v : Int32) (b : Nat) : (¬ frz S v ∧ rfs S v b = -1) ∨ (frz S v ∧ 40 ≤ S.length ∧ rfs S v b = -2) ∨ (frz S v ∧ ¬ 40 ≤ S.length ∧ 80 < (vT S v).1.length + b ∧ rfs S v b = -3) ∨ (frz S v ∧ ¬ 40 ≤ S.length ∧ ¬ 80 < (vT S v).1.length + b ∧ rfs S v b = nI 0) := by
  unfold rfs
  by_cases h1 : frz S v
  · by_cases h2 : 40 ≤ S.length
    · exact Or.inr (Or.inl ⟨h1, h2, by rw [if_neg (fun z => z h1), if_pos h2]⟩)
    · by_cases h3 : 80 < (vT S v).1.length + b
      · exact Or.inr (Or.inr (Or.inl ⟨h1, h2, h3, by rw [if_neg (fun z => z h1), if_neg h2, if_pos h3]⟩))
      · exact Or.inr (Or.inr (Or.inr ⟨h1, h2, h3, by rw [if_neg (fun z => z h1), if_neg h2, if_neg h3]⟩))
  · exact Or.inl ⟨h1, by rw [if_pos h1]⟩
theorem setT_wf {M : Nat} {T : Tr} (h : wfT M T) (i x : Int32) : wfT M (setT T i x) := by
  obtain ⟨a, b, c, d, e, f⟩ := h
  have hl : (setT T i x).1.length = T.1.length := by unfold setT; simp
  refine ⟨by rw [hl]; exact a, b, by rw [hl]; exact c, d, fun k h1 h2 => ⟨(e k h1 h2).1, ?_⟩, f⟩
  have := (e k h1 h2).2
  unfold cn at this ⊢
  rw [hl]
  exact this
theorem ndU_T {T : Tr} (h : wfT 4 T) : ndU (trs T) T.2.2 = ndT T := by
  have e : ∀ k, T.2.2 < k → (T.2.1 k).length = 0 := fun k hk => by rw [h.2.2.2.1 k (Or.inr hk)]; rfl
  have l : ∀ k, (trs T (k + 1)).length = (T.2.1 (k + 1)).length := fun k => by rw [trs_p T (by omega)]; simp
  have h4 := h.2.1
  unfold ndT
  rcases (show T.2.2 = 0 ∨ T.2.2 = 1 ∨ T.2.2 = 2 ∨ T.2.2 = 3 ∨ T.2.2 = 4 by omega) with q | q | q | q | q <;> rw [q] <;> simp only [ndU, l, Nat.zero_add, Nat.reduceAdd]
  · have := e 1 (by omega); have := e 2 (by omega); have := e 3 (by omega); have := e 4 (by omega); omega
  · have := e 2 (by omega); have := e 3 (by omega); have := e 4 (by omega); omega
  · have := e 3 (by omega); have := e 4 (by omega); omega
  · have := e 4 (by omega); omega
theorem hsh_snoc (l : List Int32) : ∀ (h x : Int32), hsh h (l ++ [x]) = nI 31 * hsh h l + x := by
  induction l with
  | nil => intro h x; rfl
  | cons y l ih => intro h x; exact ih _ x
theorem tk_snoc {L : List Int32} {i : Nat} (h : i < L.length) : L.take (i + 1) = L.take i ++ [gd 0 L i] := by
  rw [List.take_succ, gd_at (z := 0) h]; rfl
theorem drop_cons {L : List Int32} {i : Nat} (h : i < L.length) : L.drop i = gd 0 L i :: L.drop (i + 1) := by
  rw [List.drop_eq_getElem_cons h]
  congr 1
  have := gd_at (z := (0 : Int32)) h
  rw [List.getElem?_eq_getElem h] at this
  exact Option.some.inj this
theorem cmp_step {A B : List Int32} {i : Nat} (h1 : i < A.length) (h2 : i < B.length) : cmpL (A.drop i) (B.drop i) = if gd 0 A i = gd 0 B i then cmpL (A.drop (i + 1)) (B.drop (i + 1)) else if gd 0 A i < gd 0 B i then -1 else 1 := by
  rw [drop_cons h1, drop_cons h2]; rfl
theorem i3_eq {x y : Int32} : x = y ↔ x.toInt = y.toInt := ⟨fun h => by rw [h], fun h => Int32.toInt_inj.mp h⟩
theorem i3_lt {x y : Int32} : x < y ↔ x.toInt < y.toInt := Int32.lt_iff_toInt_lt
set_option maxRecDepth 100000 in
set_option maxHeartbeats 4000000 in
theorem c_Cls_versions (N : gN) (w : gW) (x : Nat) (S : St) (ed : Nat) (ts : List Nat) (O : Nat → Int32) (hC : ClsV w x S ed ts O) : CtN N y_Cls_versions b_Cls_versions 1 (some FieldType.int) (rmm 1 20 0 0) [.ref x] w (pI (fun r w' => w' = w ∧ r = nI S.length)) 0 0 := by
  refine ct_intro N [some (.ref x)] (by decide) rfl (Nat.le_of_ble_eq_true rfl) (by simp [Value.category]) ?_
  intro X hX C Rr
  refine g_aldn C d_Cls_versions_0 rfl ?_
  refine g_get C d_Cls_versions_1 fl_Cls_12 hC.1 (by rfl) ?_
  refine q_size C d_Cls_versions_4 hC rfl (Nat.le_of_ble_eq_true rfl) (by decide) (by decide) (by decide) (by decide) ?_
  exact g_iret C Rr d_Cls_versions_7 rfl (by decide) (by decide) ⟨_, rfl, rfl, rfl⟩
set_option maxRecDepth 100000 in
set_option maxHeartbeats 4000000 in
theorem c_Cls_size (N : gN) (w : gW) (x : Nat) (S : St) (ed : Nat) (ts : List Nat) (O : Nat → Int32) (v : Int32) (hC : ClsV w x S ed ts O) : CtN N y_Cls_size b_Cls_size 2 (some FieldType.int) (rmm 3 64 0 0) [.ref x, .int v] w (pI (fun r w' => w' = w ∧ r = sSize S v)) 0 0 := by
  refine ct_intro N [some (.ref x), some (.int v)] (by decide) rfl (Nat.le_of_ble_eq_true rfl) (by simp [Value.category]) ?_
  intro X hX C Rr
  obtain ⟨c0, cA, cO, ⟨⟨rs1, h1, cs1⟩, ⟨rs2, h2, cs2⟩, ⟨rs3, h3, cs3⟩⟩, ⟨cl, ck⟩, cT, ⟨cf, cf0⟩, cg, cm, ⟨cd, cz, ce, cx⟩⟩ := id hC
  have ck40 := ck.2.1
  refine g_aldn C d_Cls_size_0 rfl ?_
  refine g_ldn C d_Cls_size_1 rfl ?_
  by_cases hv : vOk S v
  · refine g_callV (ci := kCls) C d_Cls_size_2 cw_Cls_97 sl_Cls_isVersion (c_Cls_isVersion X.1 w x S ed ts O (v) hC) rfl hC.1 (As := [.int (v)]) rfl rfl rfl (Nat.le_of_ble_eq_true rfl) ⟨rfl, rfl, by decide, by decide⟩ ⟨by decide, by decide⟩ (kI (fun r w2 h2 => ?_))
    rw [h2.1, h2.2, if_pos hv]
    refine g_if_eq C 25 d_Cls_size_5 (by decide) (by first | exact nI_toInt (by omega) | rfl) (fun b5 => ?_) (fun b5 => ?_)
    · exfalso; omega
    · obtain ⟨a, ha, rfl⟩ := vOk_ex hv
      have ha31 : a < 2 ^ 31 := by omega
      have hT := cT a ha
      have hwf := hC.wf ha
      have hl := hwf.1
      have hh := hwf.2.1
      have ga := cg a ha
      refine g_aldn C d_Cls_size_8 rfl ?_
      refine g_get C d_Cls_size_9 fl_Cls_12 hC.1 (by rfl) ?_
      refine g_ldn C d_Cls_size_12 rfl ?_
      refine q_get C d_Cls_size_13 d_Cls_size_16 hC (by omega) rfl (Nat.le_of_ble_eq_true rfl) (by decide) (by decide) (by decide) (by decide) ?_
      refine q_len C d_Cls_size_19 (by assumption) rfl (Nat.le_of_ble_eq_true rfl) (by decide) (by decide) (by decide) (by decide) ?_
      refine g_goto C 26 d_Cls_size_22 (by decide) ?_
      exact g_iret C Rr d_Cls_size_26 rfl (by decide) (by decide) ⟨_, rfl, rfl, by unfold sSize; rw [if_pos hv, vT_N ha31]⟩
  · refine g_callV (ci := kCls) C d_Cls_size_2 cw_Cls_97 sl_Cls_isVersion (c_Cls_isVersion X.1 w x S ed ts O (v) hC) rfl hC.1 (As := [.int (v)]) rfl rfl rfl (Nat.le_of_ble_eq_true rfl) ⟨rfl, rfl, by decide, by decide⟩ ⟨by decide, by decide⟩ (kI (fun r w2 h2 => ?_))
    rw [h2.1, h2.2, if_neg hv]
    refine g_if_eq C 25 d_Cls_size_5 (by decide) (by first | exact nI_toInt (by omega) | rfl) (fun b5 => ?_) (fun b5 => ?_)
    · refine g_iconst (v := -1) C d_Cls_size_25 rfl ?_
      exact g_iret C Rr d_Cls_size_26 rfl (by decide) (by decide) ⟨_, rfl, rfl, by unfold sSize; rw [if_neg hv]⟩
    · exfalso; omega
set_option maxRecDepth 100000 in
set_option maxHeartbeats 4000000 in
theorem c_Cls_height (N : gN) (w : gW) (x : Nat) (S : St) (ed : Nat) (ts : List Nat) (O : Nat → Int32) (v : Int32) (hC : ClsV w x S ed ts O) : CtN N y_Cls_height b_Cls_height 2 (some FieldType.int) (rmm 3 64 0 0) [.ref x, .int v] w (pI (fun r w' => w' = w ∧ r = sHei S v)) 0 0 := by
  refine ct_intro N [some (.ref x), some (.int v)] (by decide) rfl (Nat.le_of_ble_eq_true rfl) (by simp [Value.category]) ?_
  intro X hX C Rr
  obtain ⟨c0, cA, cO, ⟨⟨rs1, h1, cs1⟩, ⟨rs2, h2, cs2⟩, ⟨rs3, h3, cs3⟩⟩, ⟨cl, ck⟩, cT, ⟨cf, cf0⟩, cg, cm, ⟨cd, cz, ce, cx⟩⟩ := id hC
  have ck40 := ck.2.1
  refine g_aldn C d_Cls_height_0 rfl ?_
  refine g_ldn C d_Cls_height_1 rfl ?_
  by_cases hv : vOk S v
  · refine g_callV (ci := kCls) C d_Cls_height_2 cw_Cls_97 sl_Cls_isVersion (c_Cls_isVersion X.1 w x S ed ts O (v) hC) rfl hC.1 (As := [.int (v)]) rfl rfl rfl (Nat.le_of_ble_eq_true rfl) ⟨rfl, rfl, by decide, by decide⟩ ⟨by decide, by decide⟩ (kI (fun r w2 h2 => ?_))
    rw [h2.1, h2.2, if_pos hv]
    refine g_if_eq C 25 d_Cls_height_5 (by decide) (by first | exact nI_toInt (by omega) | rfl) (fun b5 => ?_) (fun b5 => ?_)
    · exfalso; omega
    · obtain ⟨a, ha, rfl⟩ := vOk_ex hv
      have ha31 : a < 2 ^ 31 := by omega
      have hT := cT a ha
      have hwf := hC.wf ha
      have hl := hwf.1
      have hh := hwf.2.1
      have ga := cg a ha
      refine g_aldn C d_Cls_height_8 rfl ?_
      refine g_get C d_Cls_height_9 fl_Cls_12 hC.1 (by rfl) ?_
      refine g_ldn C d_Cls_height_12 rfl ?_
      refine q_get C d_Cls_height_13 d_Cls_height_16 hC (by omega) rfl (Nat.le_of_ble_eq_true rfl) (by decide) (by decide) (by decide) (by decide) ?_
      refine t_heiN C d_Cls_height_19 fn_Cls_90 (by assumption) ?_
      refine g_goto C 26 d_Cls_height_22 (by decide) ?_
      exact g_iret C Rr d_Cls_height_26 rfl (by decide) (by decide) ⟨_, rfl, rfl, by unfold sHei; rw [if_pos hv, vT_N ha31]⟩
  · refine g_callV (ci := kCls) C d_Cls_height_2 cw_Cls_97 sl_Cls_isVersion (c_Cls_isVersion X.1 w x S ed ts O (v) hC) rfl hC.1 (As := [.int (v)]) rfl rfl rfl (Nat.le_of_ble_eq_true rfl) ⟨rfl, rfl, by decide, by decide⟩ ⟨by decide, by decide⟩ (kI (fun r w2 h2 => ?_))
    rw [h2.1, h2.2, if_neg hv]
    refine g_if_eq C 25 d_Cls_height_5 (by decide) (by first | exact nI_toInt (by omega) | rfl) (fun b5 => ?_) (fun b5 => ?_)
    · refine g_iconst (v := -1) C d_Cls_height_25 rfl ?_
      exact g_iret C Rr d_Cls_height_26 rfl (by decide) (by decide) ⟨_, rfl, rfl, by unfold sHei; rw [if_neg hv]⟩
    · exfalso; omega
set_option maxRecDepth 100000 in
set_option maxHeartbeats 4000000 in
theorem c_Cls_nodes (N : gN) (w : gW) (x : Nat) (S : St) (ed : Nat) (ts : List Nat) (O : Nat → Int32) (v : Int32) (hC : ClsV w x S ed ts O) : CtN N y_Cls_nodes b_Cls_nodes 2 (some FieldType.int) (rmm 3 64 0 0) [.ref x, .int v] w (pI (fun r w' => w' = w ∧ r = sNod S v)) 0 0 := by
  refine ct_intro N [some (.ref x), some (.int v)] (by decide) rfl (Nat.le_of_ble_eq_true rfl) (by simp [Value.category]) ?_
  intro X hX C Rr
  obtain ⟨c0, cA, cO, ⟨⟨rs1, h1, cs1⟩, ⟨rs2, h2, cs2⟩, ⟨rs3, h3, cs3⟩⟩, ⟨cl, ck⟩, cT, ⟨cf, cf0⟩, cg, cm, ⟨cd, cz, ce, cx⟩⟩ := id hC
  have ck40 := ck.2.1
  refine g_aldn C d_Cls_nodes_0 rfl ?_
  refine g_ldn C d_Cls_nodes_1 rfl ?_
  by_cases hv : vOk S v
  · refine g_callV (ci := kCls) C d_Cls_nodes_2 cw_Cls_97 sl_Cls_isVersion (c_Cls_isVersion X.1 w x S ed ts O (v) hC) rfl hC.1 (As := [.int (v)]) rfl rfl rfl (Nat.le_of_ble_eq_true rfl) ⟨rfl, rfl, by decide, by decide⟩ ⟨by decide, by decide⟩ (kI (fun r w2 h2 => ?_))
    rw [h2.1, h2.2, if_pos hv]
    refine g_if_eq C 25 d_Cls_nodes_5 (by decide) (by first | exact nI_toInt (by omega) | rfl) (fun b5 => ?_) (fun b5 => ?_)
    · exfalso; omega
    · obtain ⟨a, ha, rfl⟩ := vOk_ex hv
      have ha31 : a < 2 ^ 31 := by omega
      have hT := cT a ha
      have hwf := hC.wf ha
      have hl := hwf.1
      have hh := hwf.2.1
      have ga := cg a ha
      refine g_aldn C d_Cls_nodes_8 rfl ?_
      refine g_get C d_Cls_nodes_9 fl_Cls_12 hC.1 (by rfl) ?_
      refine g_ldn C d_Cls_nodes_12 rfl ?_
      refine q_get C d_Cls_nodes_13 d_Cls_nodes_16 hC (by omega) rfl (Nat.le_of_ble_eq_true rfl) (by decide) (by decide) (by decide) (by decide) ?_
      refine g_callV (ci := kTree) C d_Cls_nodes_19 cw_Cls_111 sl_Tree_countNodes (c_Tree_countNodes X.1 w _ _ _ (by omega) hT) rfl hT.1 (As := []) rfl rfl rfl (Nat.le_of_ble_eq_true rfl) ⟨rfl, rfl, by decide, by decide⟩ ⟨by decide, by decide⟩ (kI (fun r w2 h2 => ?_))
      rw [h2.1, h2.2, ndU_T hwf]
      refine g_goto C 26 d_Cls_nodes_22 (by decide) ?_
      exact g_iret C Rr d_Cls_nodes_26 rfl (by decide) (by decide) ⟨_, rfl, rfl, by unfold sNod; rw [if_pos hv, vT_N ha31]⟩
  · refine g_callV (ci := kCls) C d_Cls_nodes_2 cw_Cls_97 sl_Cls_isVersion (c_Cls_isVersion X.1 w x S ed ts O (v) hC) rfl hC.1 (As := [.int (v)]) rfl rfl rfl (Nat.le_of_ble_eq_true rfl) ⟨rfl, rfl, by decide, by decide⟩ ⟨by decide, by decide⟩ (kI (fun r w2 h2 => ?_))
    rw [h2.1, h2.2, if_neg hv]
    refine g_if_eq C 25 d_Cls_nodes_5 (by decide) (by first | exact nI_toInt (by omega) | rfl) (fun b5 => ?_) (fun b5 => ?_)
    · refine g_iconst (v := -1) C d_Cls_nodes_25 rfl ?_
      exact g_iret C Rr d_Cls_nodes_26 rfl (by decide) (by decide) ⟨_, rfl, rfl, by unfold sNod; rw [if_neg hv]⟩
    · exfalso; omega
theorem sRow_T {S : St} {a : Nat} (h : vOk S (nI a)) (ha : a < 2 ^ 31) (l k : Int32) : sRow S (nI a) l k = slR (S_ S a).1 l k := by
  unfold sRow slR
  rw [vT_N ha]
  by_cases c : 1 ≤ l.toInt ∧ l.toInt ≤ (S_ S a).1.2.2 ∧ 0 ≤ k.toInt ∧ k.toInt < ((S_ S a).1.2.1 l.toInt.toNat).length
  · rw [if_pos ⟨h, c⟩, if_pos c]
  · rw [if_neg (fun z => c z.2), if_neg c]
set_option maxRecDepth 100000 in
set_option maxHeartbeats 4000000 in
theorem c_Cls_row (N : gN) (w : gW) (x : Nat) (S : St) (ed : Nat) (ts : List Nat) (O : Nat → Int32) (v l k : Int32) (hC : ClsV w x S ed ts O) : CtN N y_Cls_row b_Cls_row 4 (some FieldType.int) (rmm 3 64 0 0) [.ref x, .int v, .int l, .int k] w (pI (fun r w' => w' = w ∧ r = sRow S v l k)) 0 0 := by
  refine ct_intro N [some (.ref x), some (.int v), some (.int l), some (.int k)] (by decide) rfl (Nat.le_of_ble_eq_true rfl) (by simp [Value.category]) ?_
  intro X hX C Rr
  obtain ⟨c0, cA, cO, ⟨⟨rs1, h1, cs1⟩, ⟨rs2, h2, cs2⟩, ⟨rs3, h3, cs3⟩⟩, ⟨cl, ck⟩, cT, ⟨cf, cf0⟩, cg, cm, ⟨cd, cz, ce, cx⟩⟩ := id hC
  have ck40 := ck.2.1
  refine g_aldn C d_Cls_row_0 rfl ?_
  refine g_ldn C d_Cls_row_1 rfl ?_
  by_cases hv : vOk S v
  · refine g_callV (ci := kCls) C d_Cls_row_2 cw_Cls_97 sl_Cls_isVersion (c_Cls_isVersion X.1 w x S ed ts O (v) hC) rfl hC.1 (As := [.int (v)]) rfl rfl rfl (Nat.le_of_ble_eq_true rfl) ⟨rfl, rfl, by decide, by decide⟩ ⟨by decide, by decide⟩ (kI (fun r w2 h2 => ?_))
    rw [h2.1, h2.2, if_pos hv]
    refine g_if_eq C 27 d_Cls_row_5 (by decide) (by first | exact nI_toInt (by omega) | rfl) (fun b5 => ?_) (fun b5 => ?_)
    · exfalso; omega
    · obtain ⟨a, ha, rfl⟩ := vOk_ex hv
      have ha31 : a < 2 ^ 31 := by omega
      have hT := cT a ha
      have hwf := hC.wf ha
      have hl := hwf.1
      have hh := hwf.2.1
      have ga := cg a ha
      refine g_aldn C d_Cls_row_8 rfl ?_
      refine g_get C d_Cls_row_9 fl_Cls_12 hC.1 (by rfl) ?_
      refine g_ldn C d_Cls_row_12 rfl ?_
      refine q_get C d_Cls_row_13 d_Cls_row_16 hC (by omega) rfl (Nat.le_of_ble_eq_true rfl) (by decide) (by decide) (by decide) (by decide) ?_
      refine g_ldn C d_Cls_row_19 rfl ?_
      refine g_ldn C d_Cls_row_20 rfl ?_
      refine g_callV (ci := kTree) C d_Cls_row_21 cw_Cls_114 sl_Tree_slotsOf (c_Tree_slotsOf X.1 w _ _ l k hwf hT) rfl hT.1 (As := [.int l, .int k]) rfl rfl rfl (Nat.le_of_ble_eq_true rfl) ⟨rfl, rfl, by decide, by decide⟩ ⟨by decide, by decide⟩ (kI (fun r w2 h2 => ?_))
      rw [h2.1, h2.2]
      refine g_goto C 28 d_Cls_row_24 (by decide) ?_
      exact g_iret C Rr d_Cls_row_28 rfl (by decide) (by decide) ⟨_, rfl, rfl, (sRow_T hv ha31 l k).symm⟩
  · refine g_callV (ci := kCls) C d_Cls_row_2 cw_Cls_97 sl_Cls_isVersion (c_Cls_isVersion X.1 w x S ed ts O (v) hC) rfl hC.1 (As := [.int (v)]) rfl rfl rfl (Nat.le_of_ble_eq_true rfl) ⟨rfl, rfl, by decide, by decide⟩ ⟨by decide, by decide⟩ (kI (fun r w2 h2 => ?_))
    rw [h2.1, h2.2, if_neg hv]
    refine g_if_eq C 27 d_Cls_row_5 (by decide) (by first | exact nI_toInt (by omega) | rfl) (fun b5 => ?_) (fun b5 => ?_)
    · refine g_iconst (v := -1) C d_Cls_row_27 rfl ?_
      exact g_iret C Rr d_Cls_row_28 rfl (by decide) (by decide) ⟨_, rfl, rfl, by unfold sRow; rw [if_neg (fun z => hv z.1)]⟩
    · exfalso; omega
set_option maxRecDepth 100000 in
set_option maxHeartbeats 4000000 in
theorem c_Cls_hash (N : gN) (w : gW) (x : Nat) (S : St) (ed : Nat) (ts : List Nat) (O : Nat → Int32) (v : Int32) (hC : ClsV w x S ed ts O) : CtN N y_Cls_hash b_Cls_hash 5 (some FieldType.int) (rmm 3 64 0 0) [.ref x, .int v] w (pI (fun r w' => w' = w ∧ r = sHash S v)) 0 0 := by
  refine ct_intro N [some (.ref x), some (.int v), none, none, none] (by decide) rfl (Nat.le_of_ble_eq_true rfl) (by simp [Value.category]) ?_
  intro X hX C Rr
  obtain ⟨c0, cA, cO, ⟨⟨rs1, h1, cs1⟩, ⟨rs2, h2, cs2⟩, ⟨rs3, h3, cs3⟩⟩, ⟨cl, ck⟩, cT, ⟨cf, cf0⟩, cg, cm, ⟨cd, cz, ce, cx⟩⟩ := id hC
  have ck40 := ck.2.1
  refine g_aldn C d_Cls_hash_0 rfl ?_
  refine g_ldn C d_Cls_hash_1 rfl ?_
  by_cases hv : vOk S v
  · refine g_callV (ci := kCls) C d_Cls_hash_2 cw_Cls_97 sl_Cls_isVersion (c_Cls_isVersion X.1 w x S ed ts O (v) hC) rfl hC.1 (As := [.int (v)]) rfl rfl rfl (Nat.le_of_ble_eq_true rfl) ⟨rfl, rfl, by decide, by decide⟩ ⟨by decide, by decide⟩ (kI (fun r w2 h2 => ?_))
    rw [h2.1, h2.2, if_pos hv]
    refine g_if_ne C 10 d_Cls_hash_5 (by decide) (by first | exact nI_toInt (by omega) | rfl) (fun b5 => ?_) (fun b5 => ?_)
    · obtain ⟨a, ha, rfl⟩ := vOk_ex hv
      have ha31 : a < 2 ^ 31 := by omega
      have hT := cT a ha
      have hwf := hC.wf ha
      have hl := hwf.1
      have hh := hwf.2.1
      have ga := cg a ha
      have loop : ∀ i, i ≤ (S_ S a).1.1.length → V X w 0 0 [some (.ref x), some (.int (nI a)), some (.ref (gd 0 ts a)), some (.int (hsh (nI 1) ((S_ S a).1.1.take i))), some (.int (nI i))] [] 27 := by
        refine upto _ (fun i hi ih => ?_)
        refine g_ld C d_Cls_hash_27 rfl ?_
        refine g_aldn C d_Cls_hash_29 rfl ?_
        refine q_len C d_Cls_hash_30 (by assumption) rfl (Nat.le_of_ble_eq_true rfl) (by decide) (by decide) (by decide) (by decide) ?_
        refine g_icmp_ge C 54 d_Cls_hash_33 (by decide) (by first | exact nI_toInt (by omega) | rfl) (by first | exact nI_toInt (by omega) | rfl) (fun b33 => ?_) (fun b33 => ?_)
        · refine g_ldn C d_Cls_hash_54 rfl ?_
          exact g_iret C Rr d_Cls_hash_55 rfl (by decide) (by decide) ⟨_, rfl, rfl, by unfold sHash; rw [if_pos hv, vT_N ha31, List.take_of_length_le (by omega)]⟩
        · refine g_bipush (v := nI 31) C d_Cls_hash_36 (by decide) ?_
          refine g_ldn C d_Cls_hash_38 rfl ?_
          first | refine g_mulN C d_Cls_hash_39 ?_ | refine g_mul C d_Cls_hash_39 ?_
          refine g_aldn C d_Cls_hash_40 rfl ?_
          refine g_ld C d_Cls_hash_41 rfl ?_
          refine g_callV (ci := kTree) C d_Cls_hash_43 cw_Cls_100 sl_Tree_element (c_Tree_element X.1 w _ _ _ i (by omega) hT) rfl hT.1 (As := [.int (nI i)]) rfl rfl rfl (Nat.le_of_ble_eq_true rfl) ⟨rfl, rfl, by decide, by decide⟩ ⟨by decide, by decide⟩ (kI (fun r w2 h2 => ?_))
          rw [h2.1, h2.2, show trs (S_ S a).1 0 = (S_ S a).1.1 from rfl]
          refine g_add C d_Cls_hash_46 ?_
          rw [← hsh_snoc, ← tk_snoc (by omega)]
          refine g_stn C [_, _, _, _, _] d_Cls_hash_47 (Nat.le_of_ble_eq_true rfl) rfl ?_
          refine g_incN C [_, _, _, _, _] d_Cls_hash_48 rfl rfl ?_
          refine g_goto C 27 d_Cls_hash_51 (by decide) ?_
          exact ih (i + 1) (by omega) (by omega)
      refine g_aldn C d_Cls_hash_10 rfl ?_
      refine g_get C d_Cls_hash_11 fl_Cls_12 hC.1 (by rfl) ?_
      refine g_ldn C d_Cls_hash_14 rfl ?_
      refine q_get C d_Cls_hash_15 d_Cls_hash_18 hC (by omega) rfl (Nat.le_of_ble_eq_true rfl) (by decide) (by decide) (by decide) (by decide) ?_
      refine g_astn C [_, _, _, _, _] d_Cls_hash_21 (Nat.le_of_ble_eq_true rfl) rfl ?_
      refine g_iconst (v := nI 1) C d_Cls_hash_22 rfl ?_
      refine g_stn C [_, _, _, _, _] d_Cls_hash_23 (Nat.le_of_ble_eq_true rfl) rfl ?_
      refine g_iconst (v := nI 0) C d_Cls_hash_24 rfl ?_
      refine g_st C [_, _, _, _, _] d_Cls_hash_25 (Nat.le_of_ble_eq_true rfl) rfl ?_
      exact loop 0 (by omega)
    · exfalso; omega
  · refine g_callV (ci := kCls) C d_Cls_hash_2 cw_Cls_97 sl_Cls_isVersion (c_Cls_isVersion X.1 w x S ed ts O (v) hC) rfl hC.1 (As := [.int (v)]) rfl rfl rfl (Nat.le_of_ble_eq_true rfl) ⟨rfl, rfl, by decide, by decide⟩ ⟨by decide, by decide⟩ (kI (fun r w2 h2 => ?_))
    rw [h2.1, h2.2, if_neg hv]
    refine g_if_ne C 10 d_Cls_hash_5 (by decide) (by first | exact nI_toInt (by omega) | rfl) (fun b5 => ?_) (fun b5 => ?_)
    · exfalso; omega
    · refine g_iconst (v := nI 0) C d_Cls_hash_8 rfl ?_
      exact g_iret C Rr d_Cls_hash_9 rfl (by decide) (by decide) ⟨_, rfl, rfl, by unfold sHash; rw [if_neg hv]; rfl⟩
set_option maxRecDepth 100000 in
set_option maxHeartbeats 4000000 in
theorem c_Cls_compare (N : gN) (w : gW) (x : Nat) (S : St) (ed : Nat) (ts : List Nat) (O : Nat → Int32) (v u : Int32) (hC : ClsV w x S ed ts O) : CtN N y_Cls_compare b_Cls_compare 7 (some FieldType.int) (rmm 3 64 0 0) [.ref x, .int v, .int u] w (pI (fun r w' => w' = w ∧ r = sCmp S v u)) 0 0 := by
  refine ct_intro N [some (.ref x), some (.int v), some (.int u), none, none, none, none] (by decide) rfl (Nat.le_of_ble_eq_true rfl) (by simp [Value.category]) ?_
  intro X hX C Rr
  obtain ⟨c0, cA, cO, ⟨⟨rs1, h1, cs1⟩, ⟨rs2, h2, cs2⟩, ⟨rs3, h3, cs3⟩⟩, ⟨cl, ck⟩, cT, ⟨cf, cf0⟩, cg, cm, ⟨cd, cz, ce, cx⟩⟩ := id hC
  have ck40 := ck.2.1
  refine g_aldn C d_Cls_compare_0 rfl ?_
  refine g_ldn C d_Cls_compare_1 rfl ?_
  by_cases hv : vOk S v
  · refine g_callV (ci := kCls) C d_Cls_compare_2 cw_Cls_97 sl_Cls_isVersion (c_Cls_isVersion X.1 w x S ed ts O (v) hC) rfl hC.1 (As := [.int (v)]) rfl rfl rfl (Nat.le_of_ble_eq_true rfl) ⟨rfl, rfl, by decide, by decide⟩ ⟨by decide, by decide⟩ (kI (fun r w2 h2 => ?_))
    rw [h2.1, h2.2, if_pos hv]
    refine g_if_eq C 16 d_Cls_compare_5 (by decide) (by first | exact nI_toInt (by omega) | rfl) (fun b5 => ?_) (fun b5 => ?_)
    · exfalso; omega
    · refine g_aldn C d_Cls_compare_8 rfl ?_
      refine g_ldn C d_Cls_compare_9 rfl ?_
      by_cases hu : vOk S u
      · refine g_callV (ci := kCls) C d_Cls_compare_10 cw_Cls_97 sl_Cls_isVersion (c_Cls_isVersion X.1 w x S ed ts O (u) hC) rfl hC.1 (As := [.int (u)]) rfl rfl rfl (Nat.le_of_ble_eq_true rfl) ⟨rfl, rfl, by decide, by decide⟩ ⟨by decide, by decide⟩ (kI (fun r w2 h2 => ?_))
        rw [h2.1, h2.2, if_pos hu]
        refine g_if_ne C 18 d_Cls_compare_13 (by decide) (by first | exact nI_toInt (by omega) | rfl) (fun b13 => ?_) (fun b13 => ?_)
        · obtain ⟨a, ha, rfl⟩ := vOk_ex hv
          have ha31 : a < 2 ^ 31 := by omega
          have hT := cT a ha
          have hwf := hC.wf ha
          have hl := hwf.1
          have hh := hwf.2.1
          have ga := cg a ha
          obtain ⟨c, hc, rfl⟩ := vOk_ex hu
          have hc31 : c < 2 ^ 31 := by omega
          have hU := cT c hc
          have hul := (hC.wf hc).1
          have eq : sCmp S (nI a) (nI c) = cmpL (S_ S a).1.1 (S_ S c).1.1 := by unfold sCmp; rw [if_pos ⟨hv, hu⟩, vT_N ha31, vT_N hc31]
          have loop : ∀ i, i ≤ min (S_ S a).1.1.length (S_ S c).1.1.length → cmpL (S_ S a).1.1 (S_ S c).1.1 = cmpL ((S_ S a).1.1.drop i) ((S_ S c).1.1.drop i) → V X w 0 0 [some (.ref x), some (.int (nI a)), some (.int (nI c)), some (.ref (gd 0 ts a)), some (.ref (gd 0 ts c)), some (.int (nI (min (S_ S a).1.1.length (S_ S c).1.1.length))), some (.int (nI i))] [] 60 := by
            refine upto _ (fun i hi ih he => ?_)
            refine g_ld C d_Cls_compare_60 rfl ?_
            refine g_ld C d_Cls_compare_62 rfl ?_
            refine g_icmp_ge C 111 d_Cls_compare_64 (by decide) (by first | exact nI_toInt (by omega) | rfl) (by first | exact nI_toInt (by omega) | rfl) (fun b64 => ?_) (fun b64 => ?_)
            · refine g_aldn C d_Cls_compare_111 rfl ?_
              refine q_len C d_Cls_compare_112 (by assumption) rfl (Nat.le_of_ble_eq_true rfl) (by decide) (by decide) (by decide) (by decide) ?_
              refine g_ald C d_Cls_compare_115 rfl ?_
              refine q_len C d_Cls_compare_117 (by assumption) rfl (Nat.le_of_ble_eq_true rfl) (by decide) (by decide) (by decide) (by decide) ?_
              refine g_icmp_ne C 125 d_Cls_compare_120 (by decide) (by first | exact nI_toInt (by omega) | rfl) (by first | exact nI_toInt (by omega) | rfl) (fun b120 => ?_) (fun b120 => ?_)
              · refine g_aldn C d_Cls_compare_125 rfl ?_
                refine q_len C d_Cls_compare_126 (by assumption) rfl (Nat.le_of_ble_eq_true rfl) (by decide) (by decide) (by decide) (by decide) ?_
                refine g_ald C d_Cls_compare_129 rfl ?_
                refine q_len C d_Cls_compare_131 (by assumption) rfl (Nat.le_of_ble_eq_true rfl) (by decide) (by decide) (by decide) (by decide) ?_
                refine g_icmp_ge C 141 d_Cls_compare_134 (by decide) (by first | exact nI_toInt (by omega) | rfl) (by first | exact nI_toInt (by omega) | rfl) (fun b134 => ?_) (fun b134 => ?_)
                · refine g_iconst (v := nI 1) C d_Cls_compare_141 rfl ?_
                  have hi2 : i = (S_ S c).1.1.length := by omega
                  exact g_iret C Rr d_Cls_compare_142 rfl (by decide) (by decide) ⟨_, rfl, rfl, by rw [eq, he, drop_cons (L := (S_ S a).1.1) (by omega), show (S_ S c).1.1.drop i = [] from List.drop_of_length_le (by omega)]; rfl⟩
                · refine g_iconst (v := -1) C d_Cls_compare_137 rfl ?_
                  refine g_goto C 142 d_Cls_compare_138 (by decide) ?_
                  exact g_iret C Rr d_Cls_compare_142 rfl (by decide) (by decide) ⟨_, rfl, rfl, by rw [eq, he, drop_cons (L := (S_ S c).1.1) (by omega), List.drop_of_length_le (by omega)]; rfl⟩
              · refine g_iconst (v := nI 0) C d_Cls_compare_123 rfl ?_
                exact g_iret C Rr d_Cls_compare_124 rfl (by decide) (by decide) ⟨_, rfl, rfl, by rw [eq, he, List.drop_of_length_le (by omega), List.drop_of_length_le (by omega)]; rfl⟩
            · have cs := cmp_step (A := (S_ S a).1.1) (B := (S_ S c).1.1) (i := i) (by omega) (by omega)
              refine g_aldn C d_Cls_compare_67 rfl ?_
              refine g_ld C d_Cls_compare_68 rfl ?_
              refine g_callV (ci := kTree) C d_Cls_compare_70 cw_Cls_100 sl_Tree_element (c_Tree_element X.1 w _ _ _ i (by omega) hT) rfl hT.1 (As := [.int (nI i)]) rfl rfl rfl (Nat.le_of_ble_eq_true rfl) ⟨rfl, rfl, by decide, by decide⟩ ⟨by decide, by decide⟩ (kI (fun r w2 h2 => ?_))
              rw [h2.1, h2.2, show trs (S_ S a).1 0 = (S_ S a).1.1 from rfl]
              refine g_ald C d_Cls_compare_73 rfl ?_
              refine g_ld C d_Cls_compare_75 rfl ?_
              refine g_callV (ci := kTree) C d_Cls_compare_77 cw_Cls_100 sl_Tree_element (c_Tree_element X.1 w _ _ _ i (by omega) hU) rfl hU.1 (As := [.int (nI i)]) rfl rfl rfl (Nat.le_of_ble_eq_true rfl) ⟨rfl, rfl, by decide, by decide⟩ ⟨by decide, by decide⟩ (kI (fun r w2 h2 => ?_))
              rw [h2.1, h2.2, show trs (S_ S c).1 0 = (S_ S c).1.1 from rfl]
              refine g_icmp_eq C 105 d_Cls_compare_80 (by decide) rfl rfl (fun b80 => ?_) (fun b80 => ?_)
              · rw [if_pos (i3_eq.mpr b80)] at cs
                refine g_incN C [_, _, _, _, _, _, _] d_Cls_compare_105 rfl rfl ?_
                refine g_goto C 60 d_Cls_compare_108 (by decide) ?_
                exact ih (i + 1) (by omega) (by omega) (he.trans cs)
              · rw [if_neg (fun z => b80 (i3_eq.mp z))] at cs
                refine g_aldn C d_Cls_compare_83 rfl ?_
                refine g_ld C d_Cls_compare_84 rfl ?_
                refine g_callV (ci := kTree) C d_Cls_compare_86 cw_Cls_100 sl_Tree_element (c_Tree_element X.1 w _ _ _ i (by omega) hT) rfl hT.1 (As := [.int (nI i)]) rfl rfl rfl (Nat.le_of_ble_eq_true rfl) ⟨rfl, rfl, by decide, by decide⟩ ⟨by decide, by decide⟩ (kI (fun r w2 h2 => ?_))
                rw [h2.1, h2.2, show trs (S_ S a).1 0 = (S_ S a).1.1 from rfl]
                refine g_ald C d_Cls_compare_89 rfl ?_
                refine g_ld C d_Cls_compare_91 rfl ?_
                refine g_callV (ci := kTree) C d_Cls_compare_93 cw_Cls_100 sl_Tree_element (c_Tree_element X.1 w _ _ _ i (by omega) hU) rfl hU.1 (As := [.int (nI i)]) rfl rfl rfl (Nat.le_of_ble_eq_true rfl) ⟨rfl, rfl, by decide, by decide⟩ ⟨by decide, by decide⟩ (kI (fun r w2 h2 => ?_))
                rw [h2.1, h2.2, show trs (S_ S c).1 0 = (S_ S c).1.1 from rfl]
                refine g_icmp_ge C 103 d_Cls_compare_96 (by decide) rfl rfl (fun b96 => ?_) (fun b96 => ?_)
                · refine g_iconst (v := nI 1) C d_Cls_compare_103 rfl ?_
                  exact g_iret C Rr d_Cls_compare_104 rfl (by decide) (by decide) ⟨_, rfl, rfl, by rw [eq, he, cs, if_neg (fun z => by have := i3_lt.mp z; omega)]; rfl⟩
                · refine g_iconst (v := -1) C d_Cls_compare_99 rfl ?_
                  refine g_goto C 104 d_Cls_compare_100 (by decide) ?_
                  exact g_iret C Rr d_Cls_compare_104 rfl (by decide) (by decide) ⟨_, rfl, rfl, by rw [eq, he, cs, if_pos (i3_lt.mpr (by omega))]⟩
          refine g_aldn C d_Cls_compare_18 rfl ?_
          refine g_get C d_Cls_compare_19 fl_Cls_12 hC.1 (by rfl) ?_
          refine g_ldn C d_Cls_compare_22 rfl ?_
          refine q_get C d_Cls_compare_23 d_Cls_compare_26 hC (by omega) rfl (Nat.le_of_ble_eq_true rfl) (by decide) (by decide) (by decide) (by decide) ?_
          refine g_astn C [_, _, _, _, _, _, _] d_Cls_compare_29 (Nat.le_of_ble_eq_true rfl) rfl ?_
          refine g_aldn C d_Cls_compare_30 rfl ?_
          refine g_get C d_Cls_compare_31 fl_Cls_12 hC.1 (by rfl) ?_
          refine g_ldn C d_Cls_compare_34 rfl ?_
          refine q_get C d_Cls_compare_35 d_Cls_compare_38 hC (by omega) rfl (Nat.le_of_ble_eq_true rfl) (by decide) (by decide) (by decide) (by decide) ?_
          refine g_ast C [_, _, _, _, _, _, _] d_Cls_compare_41 (Nat.le_of_ble_eq_true rfl) rfl ?_
          refine g_aldn C d_Cls_compare_43 rfl ?_
          refine q_len C d_Cls_compare_44 (by assumption) rfl (Nat.le_of_ble_eq_true rfl) (by decide) (by decide) (by decide) (by decide) ?_
          refine g_ald C d_Cls_compare_47 rfl ?_
          refine q_len C d_Cls_compare_49 (by assumption) rfl (Nat.le_of_ble_eq_true rfl) (by decide) (by decide) (by decide) (by decide) ?_
          refine g_min (z := nI (min (S_ S a).1.1.length (S_ S c).1.1.length)) C d_Cls_compare_52 mw_Cls_106 rfl (by decide) (Nat.le_of_ble_eq_true rfl) (by decide) (by decide) (nI_min (by omega) (by omega)) ?_
          refine g_st C [_, _, _, _, _, _, _] d_Cls_compare_55 (Nat.le_of_ble_eq_true rfl) rfl ?_
          refine g_iconst (v := nI 0) C d_Cls_compare_57 rfl ?_
          refine g_st C [_, _, _, _, _, _, _] d_Cls_compare_58 (Nat.le_of_ble_eq_true rfl) rfl ?_
          exact loop 0 (by omega) rfl
        · exfalso; omega
      · refine g_callV (ci := kCls) C d_Cls_compare_10 cw_Cls_97 sl_Cls_isVersion (c_Cls_isVersion X.1 w x S ed ts O (u) hC) rfl hC.1 (As := [.int (u)]) rfl rfl rfl (Nat.le_of_ble_eq_true rfl) ⟨rfl, rfl, by decide, by decide⟩ ⟨by decide, by decide⟩ (kI (fun r w2 h2 => ?_))
        rw [h2.1, h2.2, if_neg hu]
        refine g_if_ne C 18 d_Cls_compare_13 (by decide) (by first | exact nI_toInt (by omega) | rfl) (fun b13 => ?_) (fun b13 => ?_)
        · exfalso; omega
        · refine g_iconst (v := nI 2) C d_Cls_compare_16 rfl ?_
          exact g_iret C Rr d_Cls_compare_17 rfl (by decide) (by decide) ⟨_, rfl, rfl, by unfold sCmp; rw [if_neg (fun z => hu z.2)]; rfl⟩
  · refine g_callV (ci := kCls) C d_Cls_compare_2 cw_Cls_97 sl_Cls_isVersion (c_Cls_isVersion X.1 w x S ed ts O (v) hC) rfl hC.1 (As := [.int (v)]) rfl rfl rfl (Nat.le_of_ble_eq_true rfl) ⟨rfl, rfl, by decide, by decide⟩ ⟨by decide, by decide⟩ (kI (fun r w2 h2 => ?_))
    rw [h2.1, h2.2, if_neg hv]
    refine g_if_eq C 16 d_Cls_compare_5 (by decide) (by first | exact nI_toInt (by omega) | rfl) (fun b5 => ?_) (fun b5 => ?_)
    · refine g_iconst (v := nI 2) C d_Cls_compare_16 rfl ?_
      exact g_iret C Rr d_Cls_compare_17 rfl (by decide) (by decide) ⟨_, rfl, rfl, by unfold sCmp; rw [if_neg (fun z => hv z.1)]; rfl⟩
    · exfalso; omega
set_option maxRecDepth 100000 in
set_option maxHeartbeats 4000000 in
theorem c_Cls_get (N : gN) (w : gW) (x : Nat) (S : St) (ed : Nat) (ts : List Nat) (O : Nat → Int32) (v i : Int32) (hC : ClsV w x S ed ts O) : CtN N y_Cls_get b_Cls_get 3 (some FieldType.long) (rmm 4 86 0 0) [.ref x, .int v, .int i] w (pL (fun r w' => w' = w ∧ r = sGet S v i)) 0 0 := by
  refine ct_intro N [some (.ref x), some (.int v), some (.int i)] (by decide) rfl (Nat.le_of_ble_eq_true rfl) (by simp [Value.category]) ?_
  intro X hX C Rr
  obtain ⟨c0, cA, cO, ⟨⟨rs1, h1, cs1⟩, ⟨rs2, h2, cs2⟩, ⟨rs3, h3, cs3⟩⟩, ⟨cl, ck⟩, cT, ⟨cf, cf0⟩, cg, cm, ⟨cd, cz, ce, cx⟩⟩ := id hC
  have ck40 := ck.2.1
  refine g_aldn C d_Cls_get_0 rfl ?_
  refine g_ldn C d_Cls_get_1 rfl ?_
  by_cases hv : vOk S v
  · refine g_callV (ci := kCls) C d_Cls_get_2 cw_Cls_97 sl_Cls_isVersion (c_Cls_isVersion X.1 w x S ed ts O (v) hC) rfl hC.1 (As := [.int (v)]) rfl rfl rfl (Nat.le_of_ble_eq_true rfl) ⟨rfl, rfl, by decide, by decide⟩ ⟨by decide, by decide⟩ (kI (fun r w2 h2 => ?_))
    rw [h2.1, h2.2, if_pos hv]
    refine g_if_eq C 36 d_Cls_get_5 (by decide) (by first | exact nI_toInt (by omega) | rfl) (fun b5 => ?_) (fun b5 => ?_)
    · exfalso; omega
    · refine g_aldn C d_Cls_get_8 rfl ?_
      refine g_ldn C d_Cls_get_9 rfl ?_
      refine g_ldn C d_Cls_get_10 rfl ?_
      by_cases hp : plc S v i
      · refine g_callV (ci := kCls) C d_Cls_get_11 cw_Cls_64 sl_Cls_isPlace (c_Cls_isPlace X.1 w x S ed ts O (v) (i) hC) rfl hC.1 (As := [.int (v), .int (i)]) rfl rfl rfl (Nat.le_of_ble_eq_true rfl) ⟨rfl, rfl, by decide, by decide⟩ ⟨by decide, by decide⟩ (kI (fun r w2 h2 => ?_))
        rw [h2.1, h2.2, if_pos ⟨hv, hp⟩]
        refine g_if_eq C 36 d_Cls_get_14 (by decide) (by first | exact nI_toInt (by omega) | rfl) (fun b14 => ?_) (fun b14 => ?_)
        · exfalso; omega
        · obtain ⟨a, ha, rfl⟩ := vOk_ex hv
          have ha31 : a < 2 ^ 31 := by omega
          have hT := cT a ha
          have hwf := hC.wf ha
          have hl := hwf.1
          have hh := hwf.2.1
          have ga := cg a ha
          obtain ⟨c, hc, rfl⟩ := plc_ex hp
          rw [vT_N ha31] at hc
          refine g_aldn C d_Cls_get_17 rfl ?_
          refine g_get C d_Cls_get_18 fl_Cls_12 hC.1 (by rfl) ?_
          refine g_ldn C d_Cls_get_21 rfl ?_
          refine q_get C d_Cls_get_22 d_Cls_get_25 hC (by omega) rfl (Nat.le_of_ble_eq_true rfl) (by decide) (by decide) (by decide) (by decide) ?_
          refine g_ldn C d_Cls_get_28 rfl ?_
          refine g_callV (ci := kTree) C d_Cls_get_29 cw_Cls_100 sl_Tree_element (c_Tree_element X.1 w _ _ _ c (by omega) hT) rfl hT.1 (As := [.int (nI c)]) rfl rfl rfl (Nat.le_of_ble_eq_true rfl) ⟨rfl, rfl, by decide, by decide⟩ ⟨by decide, by decide⟩ (kI (fun r w2 h2 => ?_))
          rw [h2.1, h2.2, show trs (S_ S a).1 0 = (S_ S a).1.1 from rfl]
          refine g_i2l C d_Cls_get_32 ?_
          refine g_goto C 39 d_Cls_get_33 (by decide) ?_
          exact g_lret C Rr d_Cls_get_39 (by decide) (by decide) ⟨_, rfl, rfl, by unfold sGet; rw [if_pos ⟨hv, hp⟩, vT_N ha31, nI_tn (by omega)]⟩
      · refine g_callV (ci := kCls) C d_Cls_get_11 cw_Cls_64 sl_Cls_isPlace (c_Cls_isPlace X.1 w x S ed ts O (v) (i) hC) rfl hC.1 (As := [.int (v), .int (i)]) rfl rfl rfl (Nat.le_of_ble_eq_true rfl) ⟨rfl, rfl, by decide, by decide⟩ ⟨by decide, by decide⟩ (kI (fun r w2 h2 => ?_))
        rw [h2.1, h2.2, if_neg (fun z => hp z.2)]
        refine g_if_eq C 36 d_Cls_get_14 (by decide) (by first | exact nI_toInt (by omega) | rfl) (fun b14 => ?_) (fun b14 => ?_)
        · refine g_ldc2 C d_Cls_get_36 m_350 ?_
          exact g_lret C Rr d_Cls_get_39 (by decide) (by decide) ⟨_, rfl, rfl, by unfold sGet; rw [if_neg (fun z => hp z.2)]⟩
        · exfalso; omega
  · refine g_callV (ci := kCls) C d_Cls_get_2 cw_Cls_97 sl_Cls_isVersion (c_Cls_isVersion X.1 w x S ed ts O (v) hC) rfl hC.1 (As := [.int (v)]) rfl rfl rfl (Nat.le_of_ble_eq_true rfl) ⟨rfl, rfl, by decide, by decide⟩ ⟨by decide, by decide⟩ (kI (fun r w2 h2 => ?_))
    rw [h2.1, h2.2, if_neg hv]
    refine g_if_eq C 36 d_Cls_get_5 (by decide) (by first | exact nI_toInt (by omega) | rfl) (fun b5 => ?_) (fun b5 => ?_)
    · refine g_ldc2 C d_Cls_get_36 m_350 ?_
      exact g_lret C Rr d_Cls_get_39 (by decide) (by decide) ⟨_, rfl, rfl, by unfold sGet; rw [if_neg (fun z => hv z.1)]⟩
    · exfalso; omega
set_option maxRecDepth 100000 in
set_option maxHeartbeats 4000000 in
theorem c_Cls_probes (N : gN) (w : gW) (x : Nat) (S : St) (ed : Nat) (ts : List Nat) (O : Nat → Int32) (v i : Int32) (hC : ClsV w x S ed ts O) : CtN N y_Cls_probes b_Cls_probes 3 (some FieldType.int) (rmm 4 86 0 0) [.ref x, .int v, .int i] w (pI (fun r w' => w' = w ∧ r = sPrb S v i)) 0 0 := by
  refine ct_intro N [some (.ref x), some (.int v), some (.int i)] (by decide) rfl (Nat.le_of_ble_eq_true rfl) (by simp [Value.category]) ?_
  intro X hX C Rr
  obtain ⟨c0, cA, cO, ⟨⟨rs1, h1, cs1⟩, ⟨rs2, h2, cs2⟩, ⟨rs3, h3, cs3⟩⟩, ⟨cl, ck⟩, cT, ⟨cf, cf0⟩, cg, cm, ⟨cd, cz, ce, cx⟩⟩ := id hC
  have ck40 := ck.2.1
  refine g_aldn C d_Cls_probes_0 rfl ?_
  refine g_ldn C d_Cls_probes_1 rfl ?_
  by_cases hv : vOk S v
  · refine g_callV (ci := kCls) C d_Cls_probes_2 cw_Cls_97 sl_Cls_isVersion (c_Cls_isVersion X.1 w x S ed ts O (v) hC) rfl hC.1 (As := [.int (v)]) rfl rfl rfl (Nat.le_of_ble_eq_true rfl) ⟨rfl, rfl, by decide, by decide⟩ ⟨by decide, by decide⟩ (kI (fun r w2 h2 => ?_))
    rw [h2.1, h2.2, if_pos hv]
    refine g_if_eq C 35 d_Cls_probes_5 (by decide) (by first | exact nI_toInt (by omega) | rfl) (fun b5 => ?_) (fun b5 => ?_)
    · exfalso; omega
    · refine g_aldn C d_Cls_probes_8 rfl ?_
      refine g_ldn C d_Cls_probes_9 rfl ?_
      refine g_ldn C d_Cls_probes_10 rfl ?_
      by_cases hp : plc S v i
      · refine g_callV (ci := kCls) C d_Cls_probes_11 cw_Cls_64 sl_Cls_isPlace (c_Cls_isPlace X.1 w x S ed ts O (v) (i) hC) rfl hC.1 (As := [.int (v), .int (i)]) rfl rfl rfl (Nat.le_of_ble_eq_true rfl) ⟨rfl, rfl, by decide, by decide⟩ ⟨by decide, by decide⟩ (kI (fun r w2 h2 => ?_))
        rw [h2.1, h2.2, if_pos ⟨hv, hp⟩]
        refine g_if_eq C 35 d_Cls_probes_14 (by decide) (by first | exact nI_toInt (by omega) | rfl) (fun b14 => ?_) (fun b14 => ?_)
        · exfalso; omega
        · obtain ⟨a, ha, rfl⟩ := vOk_ex hv
          have ha31 : a < 2 ^ 31 := by omega
          have hT := cT a ha
          have hwf := hC.wf ha
          have hl := hwf.1
          have hh := hwf.2.1
          have ga := cg a ha
          obtain ⟨c, hc, rfl⟩ := plc_ex hp
          rw [vT_N ha31] at hc
          refine g_aldn C d_Cls_probes_17 rfl ?_
          refine g_get C d_Cls_probes_18 fl_Cls_12 hC.1 (by rfl) ?_
          refine g_ldn C d_Cls_probes_21 rfl ?_
          refine q_get C d_Cls_probes_22 d_Cls_probes_25 hC (by omega) rfl (Nat.le_of_ble_eq_true rfl) (by decide) (by decide) (by decide) (by decide) ?_
          refine g_ldn C d_Cls_probes_28 rfl ?_
          refine g_callV (ci := kTree) C d_Cls_probes_29 cw_Cls_117 sl_Tree_missesOnTheWayTo (c_Tree_misses X.1 w _ _ c (by omega) hwf hT) rfl hT.1 (As := [.int (nI c)]) rfl rfl rfl (Nat.le_of_ble_eq_true rfl) ⟨rfl, rfl, by decide, by decide⟩ ⟨by decide, by decide⟩ (kI (fun r w2 h2 => ?_))
          rw [h2.1, h2.2]
          refine g_goto C 36 d_Cls_probes_32 (by decide) ?_
          exact g_iret C Rr d_Cls_probes_36 rfl (by decide) (by decide) ⟨_, rfl, rfl, by unfold sPrb; rw [if_pos ⟨hv, hp⟩, vT_N ha31, nI_tn (by omega)]⟩
      · refine g_callV (ci := kCls) C d_Cls_probes_11 cw_Cls_64 sl_Cls_isPlace (c_Cls_isPlace X.1 w x S ed ts O (v) (i) hC) rfl hC.1 (As := [.int (v), .int (i)]) rfl rfl rfl (Nat.le_of_ble_eq_true rfl) ⟨rfl, rfl, by decide, by decide⟩ ⟨by decide, by decide⟩ (kI (fun r w2 h2 => ?_))
        rw [h2.1, h2.2, if_neg (fun z => hp z.2)]
        refine g_if_eq C 35 d_Cls_probes_14 (by decide) (by first | exact nI_toInt (by omega) | rfl) (fun b14 => ?_) (fun b14 => ?_)
        · refine g_iconst (v := -1) C d_Cls_probes_35 rfl ?_
          exact g_iret C Rr d_Cls_probes_36 rfl (by decide) (by decide) ⟨_, rfl, rfl, by unfold sPrb; rw [if_neg (fun z => hp z.2)]⟩
        · exfalso; omega
  · refine g_callV (ci := kCls) C d_Cls_probes_2 cw_Cls_97 sl_Cls_isVersion (c_Cls_isVersion X.1 w x S ed ts O (v) hC) rfl hC.1 (As := [.int (v)]) rfl rfl rfl (Nat.le_of_ble_eq_true rfl) ⟨rfl, rfl, by decide, by decide⟩ ⟨by decide, by decide⟩ (kI (fun r w2 h2 => ?_))
    rw [h2.1, h2.2, if_neg hv]
    refine g_if_eq C 35 d_Cls_probes_5 (by decide) (by first | exact nI_toInt (by omega) | rfl) (fun b5 => ?_) (fun b5 => ?_)
    · refine g_iconst (v := -1) C d_Cls_probes_35 rfl ?_
      exact g_iret C Rr d_Cls_probes_36 rfl (by decide) (by decide) ⟨_, rfl, rfl, by unfold sPrb; rw [if_neg (fun z => hv z.1)]⟩
    · exfalso; omega
