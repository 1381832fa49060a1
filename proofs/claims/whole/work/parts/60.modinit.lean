/-! THE REFERENCE: its constructor. -/
def INm (w0 w : gW) (m k : Nat) (fs : List Value) : Prop := w.2 = m + 1 + k ∧ (∀ p, p < m → w.1 p = w0.1 p) ∧ w.1 m = some (.inr (kMod, fs)) ∧ ∀ i, i < k → w.1 (m + 1 + i) = some (.inl (rkd i, rln i, .inl (fun _ => 0)))
theorem INm.st {w0 w : gW} {m k : Nat} {fs : List Value} (h : INm w0 w m k fs) (fs' : List Value) : INm w0 (gset (gnew w (.inl (rkd k, rln k, .inl (fun _ => 0)))) m (.inr (kMod, fs'))) m (k + 1) fs' := by
  obtain ⟨h1, h2, h3, h4⟩ := h
  refine ⟨by rw [gset_sz, gnew_sz, h1]; omega, fun p hp => ?_, gset_self _ _ _, fun i hi => ?_⟩
  · rw [gset_ne _ _ (by omega), gnew_ne _ _ (by omega)]; exact h2 p hp
  · rw [gset_ne _ _ (by omega)]
    by_cases e : i = k
    · subst e; rw [← h1]; exact gnew_self _ _
    · rw [gnew_ne _ _ (by omega)]; exact h4 i (by omega)
theorem INm.fs {w0 w : gW} {m k : Nat} {fs : List Value} (h : INm w0 w m k fs) (fs' : List Value) : INm w0 (gset w m (.inr (kMod, fs'))) m k fs' := by
  obtain ⟨h1, h2, h3, h4⟩ := h
  exact ⟨h1, fun p hp => (gset_ne _ _ (by omega)).trans (h2 p hp), gset_self _ _ _, fun i hi => (gset_ne _ _ (by omega)).trans (h4 i hi)⟩
theorem INm.cell {w0 w : gW} {m k : Nat} {fs : List Value} {e : gEn} (h : INm w0 w m k fs) : (gnew w e).1 m = some (.inr (kMod, fs)) := (gnew_ne _ _ (by have := h.1; omega)).trans h.2.2.1
set_option maxRecDepth 100000 in
set_option maxHeartbeats 4000000 in
theorem c_Mod_init (N : gN) (w : gW) (m : Nat) (hsz : w.2 = m + 1) (h0 : w.1 m = some (.inr (kMod, [.null, .null, .null, .null, .null, .null, .int (nI 0), .null, .null, .null, .null, .null, .null, .null]))) : CtN N y_Mod_init b_Mod_init 1 none (rmm 1 20 13 18190) [.ref m] w (pV (fun w' => w'.2 = m + 14 ∧ (∀ p, p < m → w'.1 p = w.1 p) ∧ RefW w' w' m (fun _ _ => 0) 1)) 13 18190 := by
  refine ct_intro N [some (.ref m)] (by decide) rfl (Nat.le_of_ble_eq_true rfl) (by simp [Value.category]) ?_
  intro X hX C Rr
  refine g_aldn C d_Mod_init_0 rfl ?_
  refine g_objInit C d_Mod_init_1 ow_Mod_1 oi_inst oi_code rfl (by decide) (by decide) ?_
  have hI : INm w w m 0 [.null, .null, .null, .null, .null, .null, .int (nI 0), .null, .null, .null, .null, .null, .null, .null] := ⟨hsz, fun _ _ => rfl, h0, fun i hi => by omega⟩
  clear h0 hsz
  have key : ∀ w1, INm w w1 m 0 [.null, .null, .null, .null, .null, .null, .int (nI 0), .null, .null, .null, .null, .null, .null, .null] → V X w1 0 0 [some (.ref m)] [] 4 := by
    intro w1 hI
    refine g_aldn C d_Mod_init_4 rfl ?_
    refine g_sipush (v := nI 3200) C d_Mod_init_5 (by decide) ?_
    refine g_newa (kd := 0) C d_Mod_init_8 rfl rfl ⟨rfl, by decide, fun _ _ h => h⟩ m_69 (by decide) (by decide) (by decide) ?_
    rw [show w1.2 = m + 1 from hI.1]
    refine g_putF (fs' := [.ref (m + 1), .null, .null, .null, .null, .null, .int (nI 0), .null, .null, .null, .null, .null, .null, .null]) C Rr d_Mod_init_10 fl_Mod_7 ft_Mod (ty := .array .int) ⟨_, _, _, rfl, rfl, by decide +kernel⟩ ⟨_, _, rfl⟩ hI.cell rfl rfl (Nat.le_of_ble_eq_true rfl) rfl ?_
    replace hI : INm w (gset (gnew w1 (.inl (0, 3200, .inl (fun _ => 0)))) m (.inr (kMod, [.ref (m + 1), .null, .null, .null, .null, .null, .int (nI 0), .null, .null, .null, .null, .null, .null, .null]))) m 1 [.ref (m + 1), .null, .null, .null, .null, .null, .int (nI 0), .null, .null, .null, .null, .null, .null, .null] := hI.st [.ref (m + 1), .null, .null, .null, .null, .null, .int (nI 0), .null, .null, .null, .null, .null, .null, .null]
    revert hI
    generalize gset (gnew w1 _) m _ = w1
    intro hI
    refine g_aldn C d_Mod_init_13 rfl ?_
    refine g_sipush (v := nI 12800) C d_Mod_init_14 (by decide) ?_
    refine g_newa (kd := 1) C d_Mod_init_17 rfl rfl ⟨rfl, by decide, fun _ _ h => h⟩ m_442 (by decide) (by decide) (by decide) ?_
    rw [show w1.2 = m + 2 from hI.1]
    refine g_putF (fs' := [.ref (m + 1), .ref (m + 2), .null, .null, .null, .null, .int (nI 0), .null, .null, .null, .null, .null, .null, .null]) C Rr d_Mod_init_19 fl_Mod_13 ft_Mod (ty := .array .byte) ⟨_, _, _, rfl, rfl, by decide +kernel⟩ ⟨_, _, rfl⟩ hI.cell rfl rfl (Nat.le_of_ble_eq_true rfl) rfl ?_
    replace hI : INm w (gset (gnew w1 (.inl (1, 12800, .inl (fun _ => 0)))) m (.inr (kMod, [.ref (m + 1), .ref (m + 2), .null, .null, .null, .null, .int (nI 0), .null, .null, .null, .null, .null, .null, .null]))) m 2 [.ref (m + 1), .ref (m + 2), .null, .null, .null, .null, .int (nI 0), .null, .null, .null, .null, .null, .null, .null] := hI.st [.ref (m + 1), .ref (m + 2), .null, .null, .null, .null, .int (nI 0), .null, .null, .null, .null, .null, .null, .null]
    revert hI
    generalize gset (gnew w1 _) m _ = w1
    intro hI
    refine g_aldn C d_Mod_init_22 rfl ?_
    refine g_bipush (v := nI 40) C d_Mod_init_23 (by decide) ?_
    refine g_newa (kd := 0) C d_Mod_init_25 rfl rfl ⟨rfl, by decide, fun _ _ h => h⟩ m_69 (by decide) (by decide) (by decide) ?_
    rw [show w1.2 = m + 3 from hI.1]
    refine g_putF (fs' := [.ref (m + 1), .ref (m + 2), .ref (m + 3), .null, .null, .null, .int (nI 0), .null, .null, .null, .null, .null, .null, .null]) C Rr d_Mod_init_27 fl_Mod_17 ft_Mod (ty := .array .int) ⟨_, _, _, rfl, rfl, by decide +kernel⟩ ⟨_, _, rfl⟩ hI.cell rfl rfl (Nat.le_of_ble_eq_true rfl) rfl ?_
    replace hI : INm w (gset (gnew w1 (.inl (0, 40, .inl (fun _ => 0)))) m (.inr (kMod, [.ref (m + 1), .ref (m + 2), .ref (m + 3), .null, .null, .null, .int (nI 0), .null, .null, .null, .null, .null, .null, .null]))) m 3 [.ref (m + 1), .ref (m + 2), .ref (m + 3), .null, .null, .null, .int (nI 0), .null, .null, .null, .null, .null, .null, .null] := hI.st [.ref (m + 1), .ref (m + 2), .ref (m + 3), .null, .null, .null, .int (nI 0), .null, .null, .null, .null, .null, .null, .null]
    revert hI
    generalize gset (gnew w1 _) m _ = w1
    intro hI
    refine g_aldn C d_Mod_init_30 rfl ?_
    refine g_bipush (v := nI 40) C d_Mod_init_31 (by decide) ?_
    refine g_newa (kd := 0) C d_Mod_init_33 rfl rfl ⟨rfl, by decide, fun _ _ h => h⟩ m_69 (by decide) (by decide) (by decide) ?_
    rw [show w1.2 = m + 4 from hI.1]
    refine g_putF (fs' := [.ref (m + 1), .ref (m + 2), .ref (m + 3), .ref (m + 4), .null, .null, .int (nI 0), .null, .null, .null, .null, .null, .null, .null]) C Rr d_Mod_init_35 fl_Mod_20 ft_Mod (ty := .array .int) ⟨_, _, _, rfl, rfl, by decide +kernel⟩ ⟨_, _, rfl⟩ hI.cell rfl rfl (Nat.le_of_ble_eq_true rfl) rfl ?_
    replace hI : INm w (gset (gnew w1 (.inl (0, 40, .inl (fun _ => 0)))) m (.inr (kMod, [.ref (m + 1), .ref (m + 2), .ref (m + 3), .ref (m + 4), .null, .null, .int (nI 0), .null, .null, .null, .null, .null, .null, .null]))) m 4 [.ref (m + 1), .ref (m + 2), .ref (m + 3), .ref (m + 4), .null, .null, .int (nI 0), .null, .null, .null, .null, .null, .null, .null] := hI.st [.ref (m + 1), .ref (m + 2), .ref (m + 3), .ref (m + 4), .null, .null, .int (nI 0), .null, .null, .null, .null, .null, .null, .null]
    revert hI
    generalize gset (gnew w1 _) m _ = w1
    intro hI
    refine g_aldn C d_Mod_init_38 rfl ?_
    refine g_sipush (v := nI 200) C d_Mod_init_39 (by decide) ?_
    refine g_newa (kd := 0) C d_Mod_init_42 rfl rfl ⟨rfl, by decide, fun _ _ h => h⟩ m_69 (by decide) (by decide) (by decide) ?_
    rw [show w1.2 = m + 5 from hI.1]
    refine g_putF (fs' := [.ref (m + 1), .ref (m + 2), .ref (m + 3), .ref (m + 4), .ref (m + 5), .null, .int (nI 0), .null, .null, .null, .null, .null, .null, .null]) C Rr d_Mod_init_44 fl_Mod_23 ft_Mod (ty := .array .int) ⟨_, _, _, rfl, rfl, by decide +kernel⟩ ⟨_, _, rfl⟩ hI.cell rfl rfl (Nat.le_of_ble_eq_true rfl) rfl ?_
    replace hI : INm w (gset (gnew w1 (.inl (0, 200, .inl (fun _ => 0)))) m (.inr (kMod, [.ref (m + 1), .ref (m + 2), .ref (m + 3), .ref (m + 4), .ref (m + 5), .null, .int (nI 0), .null, .null, .null, .null, .null, .null, .null]))) m 5 [.ref (m + 1), .ref (m + 2), .ref (m + 3), .ref (m + 4), .ref (m + 5), .null, .int (nI 0), .null, .null, .null, .null, .null, .null, .null] := hI.st [.ref (m + 1), .ref (m + 2), .ref (m + 3), .ref (m + 4), .ref (m + 5), .null, .int (nI 0), .null, .null, .null, .null, .null, .null, .null]
    revert hI
    generalize gset (gnew w1 _) m _ = w1
    intro hI
    refine g_aldn C d_Mod_init_47 rfl ?_
    refine g_bipush (v := nI 40) C d_Mod_init_48 (by decide) ?_
    refine g_newa (kd := 2) C d_Mod_init_50 rfl rfl ⟨rfl, by decide, fun _ _ h => h⟩ m_146 (by decide) (by decide) (by decide) ?_
    rw [show w1.2 = m + 6 from hI.1]
    refine g_putF (fs' := [.ref (m + 1), .ref (m + 2), .ref (m + 3), .ref (m + 4), .ref (m + 5), .ref (m + 6), .int (nI 0), .null, .null, .null, .null, .null, .null, .null]) C Rr d_Mod_init_52 fl_Mod_26 ft_Mod (ty := .array .boolean) ⟨_, _, _, rfl, rfl, by decide +kernel⟩ ⟨_, _, rfl⟩ hI.cell rfl rfl (Nat.le_of_ble_eq_true rfl) rfl ?_
    replace hI : INm w (gset (gnew w1 (.inl (2, 40, .inl (fun _ => 0)))) m (.inr (kMod, [.ref (m + 1), .ref (m + 2), .ref (m + 3), .ref (m + 4), .ref (m + 5), .ref (m + 6), .int (nI 0), .null, .null, .null, .null, .null, .null, .null]))) m 6 [.ref (m + 1), .ref (m + 2), .ref (m + 3), .ref (m + 4), .ref (m + 5), .ref (m + 6), .int (nI 0), .null, .null, .null, .null, .null, .null, .null] := hI.st [.ref (m + 1), .ref (m + 2), .ref (m + 3), .ref (m + 4), .ref (m + 5), .ref (m + 6), .int (nI 0), .null, .null, .null, .null, .null, .null, .null]
    revert hI
    generalize gset (gnew w1 _) m _ = w1
    intro hI
    refine g_aldn C d_Mod_init_55 rfl ?_
    refine g_iconst (v := nI 1) C d_Mod_init_56 rfl ?_
    refine g_put (fs' := [.ref (m + 1), .ref (m + 2), .ref (m + 3), .ref (m + 4), .ref (m + 5), .ref (m + 6), .int (nI 1), .null, .null, .null, .null, .null, .null, .null]) C d_Mod_init_57 fl_Mod_30 ft_Mod (ty := .int) ⟨_, _, _, rfl, rfl, by decide +kernel⟩ hI.2.2.1 rfl rfl (Nat.le_of_ble_eq_true rfl) rfl ?_
    replace hI := hI.fs [.ref (m + 1), .ref (m + 2), .ref (m + 3), .ref (m + 4), .ref (m + 5), .ref (m + 6), .int (nI 1), .null, .null, .null, .null, .null, .null, .null]
    revert hI
    generalize gset w1 m _ = w1
    intro hI
    refine g_aldn C d_Mod_init_60 rfl ?_
    refine g_sipush (v := nI 240) C d_Mod_init_61 (by decide) ?_
    refine g_newa (kd := 0) C d_Mod_init_64 rfl rfl ⟨rfl, by decide, fun _ _ h => h⟩ m_69 (by decide) (by decide) (by decide) ?_
    rw [show w1.2 = m + 7 from hI.1]
    refine g_putF (fs' := [.ref (m + 1), .ref (m + 2), .ref (m + 3), .ref (m + 4), .ref (m + 5), .ref (m + 6), .int (nI 1), .ref (m + 7), .null, .null, .null, .null, .null, .null]) C Rr d_Mod_init_66 fl_Mod_34 ft_Mod (ty := .array .int) ⟨_, _, _, rfl, rfl, by decide +kernel⟩ ⟨_, _, rfl⟩ hI.cell rfl rfl (Nat.le_of_ble_eq_true rfl) rfl ?_
    replace hI : INm w (gset (gnew w1 (.inl (0, 240, .inl (fun _ => 0)))) m (.inr (kMod, [.ref (m + 1), .ref (m + 2), .ref (m + 3), .ref (m + 4), .ref (m + 5), .ref (m + 6), .int (nI 1), .ref (m + 7), .null, .null, .null, .null, .null, .null]))) m 7 [.ref (m + 1), .ref (m + 2), .ref (m + 3), .ref (m + 4), .ref (m + 5), .ref (m + 6), .int (nI 1), .ref (m + 7), .null, .null, .null, .null, .null, .null] := hI.st [.ref (m + 1), .ref (m + 2), .ref (m + 3), .ref (m + 4), .ref (m + 5), .ref (m + 6), .int (nI 1), .ref (m + 7), .null, .null, .null, .null, .null, .null]
    revert hI
    generalize gset (gnew w1 _) m _ = w1
    intro hI
    refine g_aldn C d_Mod_init_69 rfl ?_
    refine g_sipush (v := nI 1440) C d_Mod_init_70 (by decide) ?_
    refine g_newa (kd := 0) C d_Mod_init_73 rfl rfl ⟨rfl, by decide, fun _ _ h => h⟩ m_69 (by decide) (by decide) (by decide) ?_
    rw [show w1.2 = m + 8 from hI.1]
    refine g_putF (fs' := [.ref (m + 1), .ref (m + 2), .ref (m + 3), .ref (m + 4), .ref (m + 5), .ref (m + 6), .int (nI 1), .ref (m + 7), .ref (m + 8), .null, .null, .null, .null, .null]) C Rr d_Mod_init_75 fl_Mod_37 ft_Mod (ty := .array .int) ⟨_, _, _, rfl, rfl, by decide +kernel⟩ ⟨_, _, rfl⟩ hI.cell rfl rfl (Nat.le_of_ble_eq_true rfl) rfl ?_
    replace hI : INm w (gset (gnew w1 (.inl (0, 1440, .inl (fun _ => 0)))) m (.inr (kMod, [.ref (m + 1), .ref (m + 2), .ref (m + 3), .ref (m + 4), .ref (m + 5), .ref (m + 6), .int (nI 1), .ref (m + 7), .ref (m + 8), .null, .null, .null, .null, .null]))) m 8 [.ref (m + 1), .ref (m + 2), .ref (m + 3), .ref (m + 4), .ref (m + 5), .ref (m + 6), .int (nI 1), .ref (m + 7), .ref (m + 8), .null, .null, .null, .null, .null] := hI.st [.ref (m + 1), .ref (m + 2), .ref (m + 3), .ref (m + 4), .ref (m + 5), .ref (m + 6), .int (nI 1), .ref (m + 7), .ref (m + 8), .null, .null, .null, .null, .null]
    revert hI
    generalize gset (gnew w1 _) m _ = w1
    intro hI
    refine g_aldn C d_Mod_init_78 rfl ?_
    refine g_bipush (v := nI 24) C d_Mod_init_79 (by decide) ?_
    refine g_newa (kd := 0) C d_Mod_init_81 rfl rfl ⟨rfl, by decide, fun _ _ h => h⟩ m_69 (by decide) (by decide) (by decide) ?_
    rw [show w1.2 = m + 9 from hI.1]
    refine g_putF (fs' := [.ref (m + 1), .ref (m + 2), .ref (m + 3), .ref (m + 4), .ref (m + 5), .ref (m + 6), .int (nI 1), .ref (m + 7), .ref (m + 8), .ref (m + 9), .null, .null, .null, .null]) C Rr d_Mod_init_83 fl_Mod_40 ft_Mod (ty := .array .int) ⟨_, _, _, rfl, rfl, by decide +kernel⟩ ⟨_, _, rfl⟩ hI.cell rfl rfl (Nat.le_of_ble_eq_true rfl) rfl ?_
    replace hI : INm w (gset (gnew w1 (.inl (0, 24, .inl (fun _ => 0)))) m (.inr (kMod, [.ref (m + 1), .ref (m + 2), .ref (m + 3), .ref (m + 4), .ref (m + 5), .ref (m + 6), .int (nI 1), .ref (m + 7), .ref (m + 8), .ref (m + 9), .null, .null, .null, .null]))) m 9 [.ref (m + 1), .ref (m + 2), .ref (m + 3), .ref (m + 4), .ref (m + 5), .ref (m + 6), .int (nI 1), .ref (m + 7), .ref (m + 8), .ref (m + 9), .null, .null, .null, .null] := hI.st [.ref (m + 1), .ref (m + 2), .ref (m + 3), .ref (m + 4), .ref (m + 5), .ref (m + 6), .int (nI 1), .ref (m + 7), .ref (m + 8), .ref (m + 9), .null, .null, .null, .null]
    revert hI
    generalize gset (gnew w1 _) m _ = w1
    intro hI
    refine g_aldn C d_Mod_init_86 rfl ?_
    refine g_iconst (v := nI 3) C d_Mod_init_87 rfl ?_
    refine g_newa (kd := 0) C d_Mod_init_88 rfl rfl ⟨rfl, by decide, fun _ _ h => h⟩ m_69 (by decide) (by decide) (by decide) ?_
    rw [show w1.2 = m + 10 from hI.1]
    refine g_putF (fs' := [.ref (m + 1), .ref (m + 2), .ref (m + 3), .ref (m + 4), .ref (m + 5), .ref (m + 6), .int (nI 1), .ref (m + 7), .ref (m + 8), .ref (m + 9), .ref (m + 10), .null, .null, .null]) C Rr d_Mod_init_90 fl_Mod_43 ft_Mod (ty := .array .int) ⟨_, _, _, rfl, rfl, by decide +kernel⟩ ⟨_, _, rfl⟩ hI.cell rfl rfl (Nat.le_of_ble_eq_true rfl) rfl ?_
    replace hI : INm w (gset (gnew w1 (.inl (0, 3, .inl (fun _ => 0)))) m (.inr (kMod, [.ref (m + 1), .ref (m + 2), .ref (m + 3), .ref (m + 4), .ref (m + 5), .ref (m + 6), .int (nI 1), .ref (m + 7), .ref (m + 8), .ref (m + 9), .ref (m + 10), .null, .null, .null]))) m 10 [.ref (m + 1), .ref (m + 2), .ref (m + 3), .ref (m + 4), .ref (m + 5), .ref (m + 6), .int (nI 1), .ref (m + 7), .ref (m + 8), .ref (m + 9), .ref (m + 10), .null, .null, .null] := hI.st [.ref (m + 1), .ref (m + 2), .ref (m + 3), .ref (m + 4), .ref (m + 5), .ref (m + 6), .int (nI 1), .ref (m + 7), .ref (m + 8), .ref (m + 9), .ref (m + 10), .null, .null, .null]
    revert hI
    generalize gset (gnew w1 _) m _ = w1
    intro hI
    refine g_aldn C d_Mod_init_93 rfl ?_
    refine g_iconst (v := nI 3) C d_Mod_init_94 rfl ?_
    refine g_newa (kd := 0) C d_Mod_init_95 rfl rfl ⟨rfl, by decide, fun _ _ h => h⟩ m_69 (by decide) (by decide) (by decide) ?_
    rw [show w1.2 = m + 11 from hI.1]
    refine g_putF (fs' := [.ref (m + 1), .ref (m + 2), .ref (m + 3), .ref (m + 4), .ref (m + 5), .ref (m + 6), .int (nI 1), .ref (m + 7), .ref (m + 8), .ref (m + 9), .ref (m + 10), .ref (m + 11), .null, .null]) C Rr d_Mod_init_97 fl_Mod_46 ft_Mod (ty := .array .int) ⟨_, _, _, rfl, rfl, by decide +kernel⟩ ⟨_, _, rfl⟩ hI.cell rfl rfl (Nat.le_of_ble_eq_true rfl) rfl ?_
    replace hI : INm w (gset (gnew w1 (.inl (0, 3, .inl (fun _ => 0)))) m (.inr (kMod, [.ref (m + 1), .ref (m + 2), .ref (m + 3), .ref (m + 4), .ref (m + 5), .ref (m + 6), .int (nI 1), .ref (m + 7), .ref (m + 8), .ref (m + 9), .ref (m + 10), .ref (m + 11), .null, .null]))) m 11 [.ref (m + 1), .ref (m + 2), .ref (m + 3), .ref (m + 4), .ref (m + 5), .ref (m + 6), .int (nI 1), .ref (m + 7), .ref (m + 8), .ref (m + 9), .ref (m + 10), .ref (m + 11), .null, .null] := hI.st [.ref (m + 1), .ref (m + 2), .ref (m + 3), .ref (m + 4), .ref (m + 5), .ref (m + 6), .int (nI 1), .ref (m + 7), .ref (m + 8), .ref (m + 9), .ref (m + 10), .ref (m + 11), .null, .null]
    revert hI
    generalize gset (gnew w1 _) m _ = w1
    intro hI
    refine g_aldn C d_Mod_init_100 rfl ?_
    refine g_bipush (v := nI 80) C d_Mod_init_101 (by decide) ?_
    refine g_newa (kd := 0) C d_Mod_init_103 rfl rfl ⟨rfl, by decide, fun _ _ h => h⟩ m_69 (by decide) (by decide) (by decide) ?_
    rw [show w1.2 = m + 12 from hI.1]
    refine g_putF (fs' := [.ref (m + 1), .ref (m + 2), .ref (m + 3), .ref (m + 4), .ref (m + 5), .ref (m + 6), .int (nI 1), .ref (m + 7), .ref (m + 8), .ref (m + 9), .ref (m + 10), .ref (m + 11), .ref (m + 12), .null]) C Rr d_Mod_init_105 fl_Mod_49 ft_Mod (ty := .array .int) ⟨_, _, _, rfl, rfl, by decide +kernel⟩ ⟨_, _, rfl⟩ hI.cell rfl rfl (Nat.le_of_ble_eq_true rfl) rfl ?_
    replace hI : INm w (gset (gnew w1 (.inl (0, 80, .inl (fun _ => 0)))) m (.inr (kMod, [.ref (m + 1), .ref (m + 2), .ref (m + 3), .ref (m + 4), .ref (m + 5), .ref (m + 6), .int (nI 1), .ref (m + 7), .ref (m + 8), .ref (m + 9), .ref (m + 10), .ref (m + 11), .ref (m + 12), .null]))) m 12 [.ref (m + 1), .ref (m + 2), .ref (m + 3), .ref (m + 4), .ref (m + 5), .ref (m + 6), .int (nI 1), .ref (m + 7), .ref (m + 8), .ref (m + 9), .ref (m + 10), .ref (m + 11), .ref (m + 12), .null] := hI.st [.ref (m + 1), .ref (m + 2), .ref (m + 3), .ref (m + 4), .ref (m + 5), .ref (m + 6), .int (nI 1), .ref (m + 7), .ref (m + 8), .ref (m + 9), .ref (m + 10), .ref (m + 11), .ref (m + 12), .null]
    revert hI
    generalize gset (gnew w1 _) m _ = w1
    intro hI
    refine g_aldn C d_Mod_init_108 rfl ?_
    refine g_bipush (v := nI 80) C d_Mod_init_109 (by decide) ?_
    refine g_newa (kd := 0) C d_Mod_init_111 rfl rfl ⟨rfl, by decide, fun _ _ h => h⟩ m_69 (by decide) (by decide) (by decide) ?_
    rw [show w1.2 = m + 13 from hI.1]
    refine g_putF (fs' := [.ref (m + 1), .ref (m + 2), .ref (m + 3), .ref (m + 4), .ref (m + 5), .ref (m + 6), .int (nI 1), .ref (m + 7), .ref (m + 8), .ref (m + 9), .ref (m + 10), .ref (m + 11), .ref (m + 12), .ref (m + 13)]) C Rr d_Mod_init_113 fl_Mod_52 ft_Mod (ty := .array .int) ⟨_, _, _, rfl, rfl, by decide +kernel⟩ ⟨_, _, rfl⟩ hI.cell rfl rfl (Nat.le_of_ble_eq_true rfl) rfl ?_
    replace hI : INm w (gset (gnew w1 (.inl (0, 80, .inl (fun _ => 0)))) m (.inr (kMod, [.ref (m + 1), .ref (m + 2), .ref (m + 3), .ref (m + 4), .ref (m + 5), .ref (m + 6), .int (nI 1), .ref (m + 7), .ref (m + 8), .ref (m + 9), .ref (m + 10), .ref (m + 11), .ref (m + 12), .ref (m + 13)]))) m 13 [.ref (m + 1), .ref (m + 2), .ref (m + 3), .ref (m + 4), .ref (m + 5), .ref (m + 6), .int (nI 1), .ref (m + 7), .ref (m + 8), .ref (m + 9), .ref (m + 10), .ref (m + 11), .ref (m + 12), .ref (m + 13)] := hI.st [.ref (m + 1), .ref (m + 2), .ref (m + 3), .ref (m + 4), .ref (m + 5), .ref (m + 6), .int (nI 1), .ref (m + 7), .ref (m + 8), .ref (m + 9), .ref (m + 10), .ref (m + 11), .ref (m + 12), .ref (m + 13)]
    revert hI
    generalize gset (gnew w1 _) m _ = w1
    intro hI
    exact g_vret C Rr d_Mod_init_116 (by decide) (by decide) ⟨rfl, hI.1, hI.2.1, Sm.rf, hI.2.2.1, fun k hk => hI.2.2.2 k hk⟩
  exact key w hI
theorem RefS.fresh : RefS (fun _ _ => 0) [(T0, false)] := by
  refine ⟨⟨Nat.le_refl _, by decide, fun q hq => ?_⟩, fun i hi => ?_⟩
  · rw [List.mem_singleton.mp hq]; exact wf_T0
  · have hl : ([(T0, false)] : St).length = 1 := rfl
    rw [hl] at hi
    obtain rfl : i = 0 := by omega
    rw [show S_ [(T0, false)] 0 = (T0, false) from gd_0]
    exact ⟨⟨nI_z, fun i hi => absurd hi (Nat.not_lt_zero _), nI_z, fun l l1 l4 => ⟨nI_z, fun j hj => absurd hj (Nat.not_lt_zero _)⟩⟩, nI_z⟩
