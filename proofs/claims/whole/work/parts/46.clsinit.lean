/-! THE CLASS: its constructor. -/
theorem nI_z : (0 : Int32) = nI 0 := by decide
theorem wf_T0 : wfT 4 T0 := by
  refine ⟨Nat.zero_le _, Nat.zero_le _, ⟨fun _ => rfl, fun _ => rfl⟩, fun k hk => rfl, fun k h1 h2 => ?_, fun h => ?_⟩
  · exact absurd (Nat.le_trans h1 h2) (by decide)
  · exact absurd h (by decide)
theorem trs_T0 (k : Nat) : trs T0 k = [] := by
  unfold trs T0
  by_cases e : k = 0
  · rw [if_pos e]
  · rw [if_neg e]; rfl
theorem ClsV.fresh {w : gW} {x : Nat} (k : w.1 x = some (.inr (kCls, [.ref (x + 1), .ref (x + 19), .ref (x + 20), .ref (x + 36), .ref (x + 52)]))) (a : ALV w (x + 1) (x + 2 + 16) [x + 2]) (b : w.1 (x + 19) = some (.inl (2, 40, .inl (fun _ => 0)))) (t : TreeV w (x + 2) (fun _ => []) 0) (s1 : TreeV w (x + 20) (fun _ => []) 0) (s2 : TreeV w (x + 36) (fun _ => []) 0) (s3 : TreeV w (x + 52) (fun _ => []) 0) (u : gW) (hu : ∀ p, p < x + 68 → u.1 p = w.1 p) (zu : x + 82 ≤ u.2) : ∃ ed ts O, ClsV u x [(T0, false)] ed ts O := by
  have hl : ([(T0, false)] : St).length = 1 := rfl
  have h0 : S_ [(T0, false)] 0 = (T0, false) := gd_0
  have g0 : gd 0 [x + 2] 0 = x + 2 := gd_0
  refine ⟨x + 2 + 16, [x + 2], fun _ => 0, (hu x (by omega)).trans k, a.fr (hu _ (by omega)) (hu _ (by omega)), (hu _ (by omega)).trans b, ⟨⟨_, _, s1.fr (fun p _ _ => hu p (by omega))⟩, ⟨_, _, s2.fr (fun p _ _ => hu p (by omega))⟩, ⟨_, _, s3.fr (fun p _ _ => hu p (by omega))⟩⟩, ⟨rfl, ⟨Nat.le_of_eq hl.symm, by rw [hl]; decide, fun q hq => ?_⟩⟩, fun i hi => ?_, ⟨fun i hi => ?_, fun i hi => nI_z⟩, fun i hi => ?_, fun i j hij hj => ?_, ⟨by omega, by omega, fun i hi => ?_, zu⟩⟩
  · rw [List.mem_singleton.mp hq]
    exact wf_T0
  · rw [hl] at hi
    obtain rfl : i = 0 := by omega
    rw [h0, g0]
    exact (t.fr (fun p _ _ => hu p (by omega))).congr (fun k _ => trs_T0 k) rfl
  · rw [hl] at hi
    obtain rfl : i = 0 := by omega
    rw [h0]
    exact nI_z
  · rw [hl] at hi
    obtain rfl : i = 0 := by omega
    rw [g0]
    omega
  · rw [hl] at hj
    omega
  · rw [hl] at hi
    obtain rfl : i = 0 := by omega
    rw [g0]
    omega
set_option maxRecDepth 100000 in
set_option maxHeartbeats 4000000 in
theorem c_Cls_init (N : gN) (w : gW) (x : Nat) (hsz : w.2 = x + 1) (h0 : w.1 x = some (.inr (kCls, [.null, .null, .null, .null, .null]))) : CtN N y_Cls_init b_Cls_init 1 none (rmm 7 169 67 2455) [.ref x] w (pV (fun w' => w'.2 = x + 68 ∧ (∀ p, p < x → w'.1 p = w.1 p) ∧ ∀ w2 : gW, (∀ p, p < x + 68 → w2.1 p = w'.1 p) → x + 82 ≤ w2.2 → ∃ ed ts O, ClsV w2 x [(T0, false)] ed ts O)) 67 2455 := by
  refine ct_intro N [some (.ref x)] (by decide) rfl (Nat.le_of_ble_eq_true rfl) (by simp [Value.category]) ?_
  intro X hX C Rr
  subst hX
  refine g_aldn C d_Cls_init_0 rfl ?_
  refine g_objInit C d_Cls_init_1 ow_Cls_3 oi_inst oi_code rfl (by decide) (by decide) ?_
  refine g_aldn C d_Cls_init_4 rfl ?_
  refine g_new (ci := kAL) (fs := [.null, .int (nI 0), .int (nI 0)]) C tyAL d_Cls_init_5 rfl tyAL_ok uw_AL m_22 m_23 m_4 (fun j hj => by rcases (show j = 0 ∨ j = 1 ∨ j = 2 by omega) with rfl | rfl | rfl <;> rfl) (by decide) (by decide) ?_
  rw [hsz]
  have q0 := gnew_self w (.inr (kAL, [.null, .int (nI 0), .int (nI 0)]))
  rw [hsz] at q0
  have qz := gnew_sz w (.inr (kAL, [.null, .int (nI 0), .int (nI 0)]))
  have qo : ∀ p, p < x + 1 → (gnew w (.inr (kAL, [.null, .int (nI 0), .int (nI 0)]))).1 p = w.1 p := fun p hp => gnew_ne _ _ (by omega)
  refine g_dup C d_Cls_init_8 rfl ?_
  refine g_callI C d_Cls_init_9 cw_Cls_11 si_AL_init (c_AL_init X.1 (gnew w (.inr (kAL, [.null, .int (nI 0), .int (nI 0)]))) (x + 1) q0) (As := []) rfl rfl rfl (Nat.le_of_ble_eq_true rfl) ⟨rfl, rfl, by decide, by decide⟩ ⟨by decide, by decide⟩ (kV (fun w2 h2 => ?_))
  obtain ⟨h2s, h2l⟩ := h2
  have k2 := (h2s.2 x (by omega)).trans ((qo x (by omega)).trans h0)
  refine g_putF C Rr d_Cls_init_12 fl_Cls_12 ft_Cls (ty := .object "java/util/ArrayList") ⟨_, _, _, rfl, rfl, by decide +kernel⟩ ⟨_, _, rfl⟩ k2 rfl rfl (Nat.le_of_ble_eq_true rfl) rfl ?_
  generalize e3 : gset w2 x _ = w3
  have z3 : w3.2 = x + 2 := by rw [← e3, gset_sz, h2s.1, qz, hsz]
  have k3 : w3.1 x = some (.inr (kCls, [.ref (x + 1), .null, .null, .null, .null])) := by rw [← e3]; exact gset_self _ _ _
  have l3 : w3.1 (x + 1) = some (.inr (kAL, [.ref (X.1.2.2.2 5), .int (nI 0), .int (nI 0)])) := by rw [← e3, gset_ne _ _ (by omega)]; exact h2l
  have o3 : ∀ p, p < x → w3.1 p = w.1 p := fun p hp => by rw [← e3, gset_ne _ _ (by omega)]; exact (h2s.2 p (by omega)).trans (qo p (by omega))
  clear e3 qz qo q0 h2s h2l k2
  refine g_aldn C d_Cls_init_15 rfl ?_
  refine g_get C d_Cls_init_16 fl_Cls_12 k3 (by rfl) ?_
  refine g_new (ci := kTree) (fs := [.null, .int (nI 0)]) C tyTree d_Cls_init_19 rfl tyTree_ok uw_Tree m_48 m_49 m_5 (fun j hj => by rcases (show j = 0 ∨ j = 1 by omega) with rfl | rfl <;> rfl) (by decide) (by decide) ?_
  rw [z3]
  have q4 := gnew_self w3 (.inr (kTree, [.null, .int (nI 0)]))
  rw [z3] at q4
  refine g_dup C d_Cls_init_22 rfl ?_
  refine g_callI C d_Cls_init_23 cw_Cls_18 si_Tree_init (c_Tree_init X.1 (gnew w3 (.inr (kTree, [.null, .int (nI 0)]))) (x + 2) (by rw [gnew_sz, z3]) q4) (As := []) rfl rfl rfl (Nat.le_of_ble_eq_true rfl) ⟨rfl, rfl, by decide, by decide⟩ ⟨by decide, by decide⟩ (kV (fun w4 h4 => ?_))
  have o4 : ∀ p, p < x + 2 → w4.1 p = w3.1 p := fun p hp => (h4.1.2 p hp).trans (gnew_ne _ _ (by omega))
  have z4 : w4.2 = x + 2 + 16 := by rw [h4.1.1, gnew_sz, z3]
  have t4 := h4.2
  clear q4 h4
  have l4 := (o4 (x + 1) (by omega)).trans l3
  refine g_callV (ci := kAL) C d_Cls_init_26 cw_Cls_19 sl_AL_add (c_AL_addz X.1 w4 (x + 1) (nI 0) (x + 2) _ t4.1 (by omega) (by omega) l4 (by omega)) rfl l4 (As := [.ref (x + 2)]) rfl rfl rfl (Nat.le_of_ble_eq_true rfl) ⟨rfl, rfl, by decide, by decide⟩ ⟨by decide, by decide⟩ (kI (fun r w5 h5 => ?_))
  obtain ⟨a5, z5, o5⟩ := h5
  have k5 := (o5 x (by omega) (by omega)).trans ((o4 x (by omega)).trans k3)
  rw [z4] at z5
  rw [z4] at a5
  refine g_pop C d_Cls_init_29 rfl ?_
  refine g_aldn C d_Cls_init_30 rfl ?_
  refine g_bipush (v := nI 40) C d_Cls_init_31 (by decide) ?_
  refine g_newa (kd := 2) C d_Cls_init_33 rfl rfl ⟨rfl, by decide, fun _ _ h => h⟩ m_146 (by decide) (by decide) (by decide) ?_
  rw [z5]
  have q6 := gnew_self w5 (.inl (2, 40, .inl (fun _ => 0)))
  rw [z5] at q6
  have o6 : ∀ p, p < x + 19 → (gnew w5 (.inl (2, 40, .inl (fun _ => 0)))).1 p = w5.1 p := fun p hp => gnew_ne _ _ (by omega)
  have z6 : (gnew w5 (.inl (2, 40, .inl (fun _ => 0)))).2 = x + 20 := by rw [gnew_sz, z5]
  generalize gnew w5 (.inl (2, 40, .inl (fun _ => 0))) = w6 at q6 o6 z6 ⊢
  have k6 := (o6 x (by omega)).trans k5
  refine g_putF C Rr d_Cls_init_35 fl_Cls_23 ft_Cls (ty := .array .boolean) ⟨_, _, _, rfl, rfl, by decide +kernel⟩ ⟨_, _, rfl⟩ k6 rfl rfl (Nat.le_of_ble_eq_true rfl) rfl ?_
  generalize e7 : gset w6 x _ = w7
  have k7 : w7.1 x = some (.inr (kCls, [.ref (x + 1), .ref (x + 19), .null, .null, .null])) := by rw [← e7]; exact gset_self _ _ _
  have o7 : ∀ p, p ≠ x → w7.1 p = w6.1 p := fun p hp => by rw [← e7]; exact gset_ne _ _ hp
  have z7 : w7.2 = w6.2 := by rw [← e7]; rfl
  clear e7
  rw [z6] at z7
  refine g_aldn C d_Cls_init_38 rfl ?_
  refine g_new (ci := kTree) (fs := [.null, .int (nI 0)]) C tyTree d_Cls_init_39 rfl tyTree_ok uw_Tree m_48 m_49 m_5 (fun j hj => by rcases (show j = 0 ∨ j = 1 by omega) with rfl | rfl <;> rfl) (by decide) (by decide) ?_
  rw [z7]
  have q8 := gnew_self w7 (.inr (kTree, [.null, .int (nI 0)]))
  rw [z7] at q8
  refine g_dup C d_Cls_init_42 rfl ?_
  refine g_callI C d_Cls_init_43 cw_Cls_18 si_Tree_init (c_Tree_init X.1 (gnew w7 (.inr (kTree, [.null, .int (nI 0)]))) (x + 20) (by rw [gnew_sz, z7]) q8) (As := []) rfl rfl rfl (Nat.le_of_ble_eq_true rfl) ⟨rfl, rfl, by decide, by decide⟩ ⟨by decide, by decide⟩ (kV (fun w8 h8 => ?_))
  have o8 : ∀ p, p < x + 20 → w8.1 p = w7.1 p := fun p hp => (h8.1.2 p hp).trans (gnew_ne _ _ (by omega))
  have z8 : w8.2 = x + 20 + 16 := by rw [h8.1.1, gnew_sz, z7]
  have t8 := h8.2
  clear q8 h8
  have k8 := (o8 x (by omega)).trans k7
  refine g_putF C Rr d_Cls_init_46 fl_Cls_27 ft_Cls (ty := .object "RelaxedRadixVector$Tree") ⟨_, _, _, rfl, rfl, by decide +kernel⟩ ⟨_, _, rfl⟩ k8 rfl rfl (Nat.le_of_ble_eq_true rfl) rfl ?_
  generalize e9 : gset w8 x _ = w9
  have k9 : w9.1 x = some (.inr (kCls, [.ref (x + 1), .ref (x + 19), .ref (x + 20), .null, .null])) := by rw [← e9]; exact gset_self _ _ _
  have o9 : ∀ p, p ≠ x → w9.1 p = w8.1 p := fun p hp => by rw [← e9]; exact gset_ne _ _ hp
  have z9 : w9.2 = w8.2 := by rw [← e9]; rfl
  clear e9
  rw [z8] at z9
  refine g_aldn C d_Cls_init_49 rfl ?_
  refine g_new (ci := kTree) (fs := [.null, .int (nI 0)]) C tyTree d_Cls_init_50 rfl tyTree_ok uw_Tree m_48 m_49 m_5 (fun j hj => by rcases (show j = 0 ∨ j = 1 by omega) with rfl | rfl <;> rfl) (by decide) (by decide) ?_
  rw [z9]
  have q10 := gnew_self w9 (.inr (kTree, [.null, .int (nI 0)]))
  rw [z9] at q10
  refine g_dup C d_Cls_init_53 rfl ?_
  refine g_callI C d_Cls_init_54 cw_Cls_18 si_Tree_init (c_Tree_init X.1 (gnew w9 (.inr (kTree, [.null, .int (nI 0)]))) (x + 36) (by rw [gnew_sz, z9]) q10) (As := []) rfl rfl rfl (Nat.le_of_ble_eq_true rfl) ⟨rfl, rfl, by decide, by decide⟩ ⟨by decide, by decide⟩ (kV (fun w10 h10 => ?_))
  have o10 : ∀ p, p < x + 36 → w10.1 p = w9.1 p := fun p hp => (h10.1.2 p hp).trans (gnew_ne _ _ (by omega))
  have z10 : w10.2 = x + 36 + 16 := by rw [h10.1.1, gnew_sz, z9]
  have t10 := h10.2
  clear q10 h10
  have k10 := (o10 x (by omega)).trans k9
  refine g_putF C Rr d_Cls_init_57 fl_Cls_31 ft_Cls (ty := .object "RelaxedRadixVector$Tree") ⟨_, _, _, rfl, rfl, by decide +kernel⟩ ⟨_, _, rfl⟩ k10 rfl rfl (Nat.le_of_ble_eq_true rfl) rfl ?_
  generalize e11 : gset w10 x _ = w11
  have k11 : w11.1 x = some (.inr (kCls, [.ref (x + 1), .ref (x + 19), .ref (x + 20), .ref (x + 36), .null])) := by rw [← e11]; exact gset_self _ _ _
  have o11 : ∀ p, p ≠ x → w11.1 p = w10.1 p := fun p hp => by rw [← e11]; exact gset_ne _ _ hp
  have z11 : w11.2 = w10.2 := by rw [← e11]; rfl
  clear e11
  rw [z10] at z11
  refine g_aldn C d_Cls_init_60 rfl ?_
  refine g_new (ci := kTree) (fs := [.null, .int (nI 0)]) C tyTree d_Cls_init_61 rfl tyTree_ok uw_Tree m_48 m_49 m_5 (fun j hj => by rcases (show j = 0 ∨ j = 1 by omega) with rfl | rfl <;> rfl) (by decide) (by decide) ?_
  rw [z11]
  have q12 := gnew_self w11 (.inr (kTree, [.null, .int (nI 0)]))
  rw [z11] at q12
  refine g_dup C d_Cls_init_64 rfl ?_
  refine g_callI C d_Cls_init_65 cw_Cls_18 si_Tree_init (c_Tree_init X.1 (gnew w11 (.inr (kTree, [.null, .int (nI 0)]))) (x + 52) (by rw [gnew_sz, z11]) q12) (As := []) rfl rfl rfl (Nat.le_of_ble_eq_true rfl) ⟨rfl, rfl, by decide, by decide⟩ ⟨by decide, by decide⟩ (kV (fun w12 h12 => ?_))
  have o12 : ∀ p, p < x + 52 → w12.1 p = w11.1 p := fun p hp => (h12.1.2 p hp).trans (gnew_ne _ _ (by omega))
  have z12 : w12.2 = x + 52 + 16 := by rw [h12.1.1, gnew_sz, z11]
  have t12 := h12.2
  clear q12 h12
  have k12 := (o12 x (by omega)).trans k11
  refine g_putF C Rr d_Cls_init_68 fl_Cls_34 ft_Cls (ty := .object "RelaxedRadixVector$Tree") ⟨_, _, _, rfl, rfl, by decide +kernel⟩ ⟨_, _, rfl⟩ k12 rfl rfl (Nat.le_of_ble_eq_true rfl) rfl ?_
  generalize e13 : gset w12 x _ = w13
  have k13 : w13.1 x = some (.inr (kCls, [.ref (x + 1), .ref (x + 19), .ref (x + 20), .ref (x + 36), .ref (x + 52)])) := by rw [← e13]; exact gset_self _ _ _
  have o13 : ∀ p, p ≠ x → w13.1 p = w12.1 p := fun p hp => by rw [← e13]; exact gset_ne _ _ hp
  have z13 : w13.2 = w12.2 := by rw [← e13]; rfl
  clear e13
  rw [z12] at z13
  have f12 : ∀ p, p < x + 52 → p ≠ x → w13.1 p = w11.1 p := fun p hp hx => (o13 p hx).trans (o12 p hp)
  have f10 : ∀ p, p < x + 36 → p ≠ x → w13.1 p = w9.1 p := fun p hp hx => (f12 p (by omega) hx).trans ((o11 p hx).trans (o10 p hp))
  have f8 : ∀ p, p < x + 20 → p ≠ x → w13.1 p = w7.1 p := fun p hp hx => (f10 p (by omega) hx).trans ((o9 p hx).trans (o8 p hp))
  have f5 : ∀ p, p < x + 19 → p ≠ x → w13.1 p = w5.1 p := fun p hp hx => (f8 p (by omega) hx).trans ((o7 p hx).trans (o6 p hp))
  have f4 : ∀ p, p < x + 18 → p ≠ x → p ≠ x + 1 → w13.1 p = w4.1 p := fun p hp hx h1 => (f5 p (by omega) hx).trans (o5 p (by omega) h1)
  have a13 := a5.fr (w' := w13) (f5 _ (by omega) (by omega)) (f5 _ (by omega) (by omega))
  have b13 := (f8 (x + 19) (by omega) (by omega)).trans ((o7 _ (by omega)).trans q6)
  have t13 := t4.fr (w' := w13) (fun p a b => f4 p (by omega) (by omega) (by omega))
  have s1 := t8.fr (w' := w13) (fun p a b => (f10 p (by omega) (by omega)).trans (o9 p (by omega)))
  have s2 := t10.fr (w' := w13) (fun p a b => (f12 p (by omega) (by omega)).trans (o11 p (by omega)))
  have s3 := t12.fr (w' := w13) (fun p a b => o13 p (by omega))
  exact g_vret C Rr d_Cls_init_71 (by decide) (by decide) ⟨rfl, z13, fun p hp => (f4 p (by omega) (by omega) (by omega)).trans ((o4 p (by omega)).trans (o3 p hp)), fun u hu zu => ClsV.fresh k13 a13 b13 t13 s1 s2 s3 u hu zu⟩
