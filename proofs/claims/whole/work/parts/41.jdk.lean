/-! THE JDK's METHODS: checks of an index, ArrayList. -/
theorem flx_63 : FLX "java/util/ArrayList" 63 kAL 2 := ⟨RAL, "java/util/ArrayList", TAL, 3, rfl, by decide, uw_AL, m_39, Or.inr m_40⟩
theorem flx_7 : FLX "java/util/AbstractList" 7 kAL 2 := ⟨RAL, "java/util/AbstractList", TAL, 3, rfl, by decide, uw_AL, m_38, Or.inl rfl⟩
set_option maxRecDepth 100000 in
set_option maxHeartbeats 4000000 in
theorem c_Prc (N : gN) (w : gW) (i b : Nat) (hi : i < b) (hb : b < 2 ^ 31) : CtN N y_Prc_checkIndex b_Prc_checkIndex 3 (some FieldType.int) (rmm 0 0 0 0) [.int (nI i), .int (nI b), .null] w (pI (fun r w' => w' = w ∧ r = nI i)) 0 0 := by
  refine ct_intro N [some (.int (nI i)), some (.int (nI b)), some (.null)] (by decide) rfl (Nat.le_of_ble_eq_true rfl) (by simp [Value.category]) ?_
  intro X hX C Rr
  refine g_ldn C d_Prc_checkIndex_0 rfl ?_
  refine g_if_lt C 9 d_Prc_checkIndex_1 (by decide) (by first | exact nI_toInt (by omega) | rfl) (fun b1 => ?_) (fun b1 => ?_)
  · exfalso; omega
  · refine g_ldn C d_Prc_checkIndex_4 rfl ?_
    refine g_ldn C d_Prc_checkIndex_5 rfl ?_
    refine g_icmp_lt C 16 d_Prc_checkIndex_6 (by decide) (by first | exact nI_toInt (by omega) | rfl) (by first | exact nI_toInt (by omega) | rfl) (fun b6 => ?_) (fun b6 => ?_)
    · refine g_ldn C d_Prc_checkIndex_16 rfl ?_
      exact g_iret C Rr d_Prc_checkIndex_17 rfl (by decide) (by decide) ⟨_, rfl, rfl, rfl⟩
    · exfalso; omega
set_option maxRecDepth 100000 in
set_option maxHeartbeats 4000000 in
theorem c_Obs (N : gN) (w : gW) (i b : Nat) (hi : i < b) (hb : b < 2 ^ 31) : CtN N y_Obs_checkIndex b_Obs_checkIndex 2 (some FieldType.int) (rmm 1 22 0 0) [.int (nI i), .int (nI b)] w (pI (fun r w' => w' = w ∧ r = nI i)) 0 0 := by
  refine ct_intro N [some (.int (nI i)), some (.int (nI b))] (by decide) rfl (Nat.le_of_ble_eq_true rfl) (by simp [Value.category]) ?_
  intro X hX C Rr
  refine g_ldn C d_Obs_checkIndex_0 rfl ?_
  refine g_ldn C d_Obs_checkIndex_1 rfl ?_
  refine g_null C d_Obs_checkIndex_2 ?_
  refine g_callS C d_Obs_checkIndex_3 cw_Obs_105 ss_Prc_checkIndex (c_Prc X.1 w i b hi hb) (As := [.int (nI i), .int (nI b), .null]) rfl rfl rfl (Nat.le_of_ble_eq_true rfl) ⟨rfl, rfl, by decide, by decide⟩ ⟨by decide, by decide⟩ (kI (fun r w2 h2 => ?_))
  obtain ⟨rfl, rfl⟩ := h2
  exact g_iret C Rr d_Obs_checkIndex_6 rfl (by decide) (by decide) ⟨_, rfl, rfl, rfl⟩
/-- a list at l: its array at ed, its elements ts -/
def ALV (w : gW) (l ed : Nat) (ts : List Nat) : Prop := ∃ (cap : Nat) (g : Nat → Option Nat) (mo : Int32), w.1 l = some (.inr (kAL, [.ref ed, .int (nI ts.length), .int mo])) ∧ w.1 ed = some (.inl (4, cap, .inr (.inr (.inr (.inr g))))) ∧ ts.length ≤ cap ∧ 10 ≤ cap ∧ cap ≤ 80 ∧ ∀ i, i < ts.length → g i = some (gd 0 ts i)
theorem ALV.fr {w w' : gW} {l ed : Nat} {ts : List Nat} (h : ALV w l ed ts) (h1 : w'.1 l = w.1 l) (h2 : w'.1 ed = w.1 ed) : ALV w' l ed ts := by
  obtain ⟨cap, g, mo, a, b, c⟩ := h
  exact ⟨cap, g, mo, h1.trans a, h2.trans b, c⟩
theorem ALV.cell {w : gW} {l ed : Nat} {ts : List Nat} (h : ALV w l ed ts) : ∃ vs, w.1 l = some (.inr (kAL, vs)) := by
  obtain ⟨cap, g, mo, a, b, c⟩ := h
  exact ⟨_, a⟩
set_option maxRecDepth 100000 in
set_option maxHeartbeats 4000000 in
theorem c_AL_size (N : gN) (w : gW) (l ed : Nat) (ts : List Nat) (hA : ALV w l ed ts) : CtN N y_AL_size b_AL_size 1 (some FieldType.int) (rmm 0 0 0 0) [.ref l] w (pI (fun r w' => w' = w ∧ r = nI ts.length)) 0 0 := by
  obtain ⟨cap, g, mo, h0, h1, hl1, hl2, hl3, hg⟩ := hA
  refine ct_intro N [some (.ref l)] (by decide) rfl (Nat.le_of_ble_eq_true rfl) (by simp [Value.category]) ?_
  intro X hX C Rr
  refine g_aldn C d_AL_size_0 rfl ?_
  refine g_get C d_AL_size_1 fl_AL_48 (by assumption) (by rfl) ?_
  exact g_iret C Rr d_AL_size_4 rfl (by decide) (by decide) ⟨_, rfl, rfl, rfl⟩
set_option maxRecDepth 100000 in
set_option maxHeartbeats 4000000 in
theorem c_AL_elementData (N : gN) (w : gW) (l ed : Nat) (ts : List Nat) (i : Nat) (hi : i < ts.length) (hA : ALV w l ed ts) : CtN N y_AL_elementData b_AL_elementData 2 (some (FieldType.object "java/lang/Object")) (rmm 0 0 0 0) [.ref l, .int (nI i)] w (pR (fun a w' => w' = w ∧ a = gd 0 ts i)) 0 0 := by
  obtain ⟨cap, g, mo, h0, h1, hl1, hl2, hl3, hg⟩ := hA
  refine ct_intro N [some (.ref l), some (.int (nI i))] (by decide) rfl (Nat.le_of_ble_eq_true rfl) (by simp [Value.category]) ?_
  intro X hX C Rr
  refine g_aldn C d_AL_elementData_0 rfl ?_
  refine g_get C d_AL_elementData_1 fl_AL_9 (by assumption) (by rfl) ?_
  refine g_ldn C d_AL_elementData_4 rfl ?_
  refine g_aald4 C d_AL_elementData_5 h1 (by omega) (by omega) (hg i hi) ?_
  exact g_aret C Rr d_AL_elementData_6 (Or.inl ⟨_, rfl⟩) (Or.inr ⟨_, rfl⟩) (by decide) (by decide) ⟨_, rfl, rfl, rfl⟩
set_option maxRecDepth 100000 in
set_option maxHeartbeats 4000000 in
theorem c_AL_get (N : gN) (w : gW) (l ed : Nat) (ts : List Nat) (i : Nat) (hi : i < ts.length) (hA : ALV w l ed ts) : CtN N y_AL_get b_AL_get 2 (some (FieldType.object "java/lang/Object")) (rmm 2 43 0 0) [.ref l, .int (nI i)] w (pR (fun a w' => w' = w ∧ a = gd 0 ts i)) 0 0 := by
  obtain ⟨cap, g, mo, h0, h1, hl1, hl2, hl3, hg⟩ := id hA
  refine ct_intro N [some (.ref l), some (.int (nI i))] (by decide) rfl (Nat.le_of_ble_eq_true rfl) (by simp [Value.category]) ?_
  intro X hX C Rr
  refine g_ldn C d_AL_get_0 rfl ?_
  refine g_aldn C d_AL_get_1 rfl ?_
  refine g_get C d_AL_get_2 fl_AL_48 (by assumption) (by rfl) ?_
  refine g_callS C d_AL_get_5 cw_AL_118 ss_Obs_checkIndex (c_Obs X.1 w i ts.length hi (by omega)) (As := [.int (nI i), .int (nI ts.length)]) rfl rfl rfl (Nat.le_of_ble_eq_true rfl) ⟨rfl, rfl, by decide, by decide⟩ ⟨by decide, by decide⟩ (kI (fun r w2 h2 => ?_))
  obtain ⟨rfl, rfl⟩ := h2
  refine g_pop C d_AL_get_8 rfl ?_
  refine g_aldn C d_AL_get_9 rfl ?_
  refine g_ldn C d_AL_get_10 rfl ?_
  refine g_callV (ci := kAL) C d_AL_get_11 cw_AL_123 sl_AL_elementData (c_AL_elementData X.1 w2 l ed ts i hi hA) rfl h0 (As := [.int (nI i)]) rfl rfl rfl (Nat.le_of_ble_eq_true rfl) ⟨rfl, rfl, by decide, by decide⟩ ⟨by decide, by decide⟩ (kR (fun a w3 h3 => ?_))
  obtain ⟨rfl, rfl⟩ := h3
  exact g_aret C Rr d_AL_get_14 (Or.inl ⟨_, rfl⟩) (Or.inr ⟨_, rfl⟩) (by decide) (by decide) ⟨_, rfl, rfl, rfl⟩
set_option maxRecDepth 100000 in
set_option maxHeartbeats 4000000 in
theorem c_AS_newLength (N : gN) (w : gW) (a b c : Nat) (h : a + b + c < 2 ^ 30) (h0 : 0 < a) : CtN N y_AS_newLength b_AS_newLength 4 (some FieldType.int) (rmm 1 22 0 0) [.int (nI a), .int (nI b), .int (nI c)] w (pI (fun r w' => w' = w ∧ r = nI (a + max b c))) 0 0 := by
  refine ct_intro N [some (.int (nI a)), some (.int (nI b)), some (.int (nI c)), none] (by decide) rfl (Nat.le_of_ble_eq_true rfl) (by simp [Value.category]) ?_
  intro X hX C Rr
  refine g_ldn C d_AS_newLength_0 rfl ?_
  refine g_ldn C d_AS_newLength_1 rfl ?_
  refine g_ldn C d_AS_newLength_2 rfl ?_
  refine g_max (z := nI (max b c)) C d_AS_newLength_3 mw_AS_194 rfl (by decide) (Nat.le_of_ble_eq_true rfl) (by decide) (by decide) (nI_max (by omega) (by omega)) ?_
  first | refine g_addN C d_AS_newLength_6 ?_ | refine g_add C d_AS_newLength_6 ?_
  refine g_stn C [_, _, _, _] d_AS_newLength_7 (Nat.le_of_ble_eq_true rfl) rfl ?_
  refine g_iconst (v := nI 0) C d_AS_newLength_8 rfl ?_
  refine g_ldn C d_AS_newLength_9 rfl ?_
  refine g_icmp_ge C 21 d_AS_newLength_10 (by decide) (by first | exact nI_toInt (by omega) | rfl) (by first | exact nI_toInt (by omega) | rfl) (fun b10 => ?_) (fun b10 => ?_)
  · exfalso; omega
  · refine g_ldn C d_AS_newLength_13 rfl ?_
    refine g_ldc (v := 2147483639) C d_AS_newLength_14 m_100 ?_
    refine g_icmp_gt C 21 d_AS_newLength_16 (by decide) (by first | exact nI_toInt (by omega) | rfl) (show (2147483639 : Int32).toInt = 2147483639 by decide) (fun b16 => ?_) (fun b16 => ?_)
    · exfalso; omega
    · refine g_ldn C d_AS_newLength_19 rfl ?_
      exact g_iret C Rr d_AS_newLength_20 rfl (by decide) (by decide) ⟨_, rfl, rfl, rfl⟩
set_option maxRecDepth 100000 in
set_option maxHeartbeats 4000000 in
theorem c_Arr_copyOf3 (N : gN) (w : gW) (ed n b : Nat) (g : Nat → Option Nat) (h1 : w.1 ed = some (.inl (4, n, .inr (.inr (.inr (.inr g)))))) (hel : ∀ i, i < n → ∀ y, g i = some y → y < w.2 ∧ ∃ vs, w.1 y = some (.inr (kTree, vs))) (hn : n ≤ b) (hb : b ≤ 80) (hsz : ed < w.2) : CtN N y_Arr_copyOf3 b_Arr_copyOf3 4 (some (FieldType.array (FieldType.object "java/lang/Object"))) (rmm 1 38 1 80) [.ref ed, .int (nI b), .ref (N.2.2.2 6)] w (pR (fun a w' => a = w.2 ∧ w'.2 = w.2 + 1 ∧ (∃ g', w'.1 w.2 = some (.inl (4, b, .inr (.inr (.inr (.inr g'))))) ∧ ∀ i, i < n → g' i = g i) ∧ ∀ p, p < w.2 → w'.1 p = w.1 p)) 1 80 := by
  refine ct_intro N [some (.ref ed), some (.int (nI b)), some (.ref (N.2.2.2 6)), none] (by decide) rfl (Nat.le_of_ble_eq_true rfl) (by simp [Value.category]) ?_
  intro X hX C Rr
  subst hX
  refine g_aldn C d_Arr_copyOf3_0 rfl ?_
  refine g_ldcM C d_Arr_copyOf3_1 m_119 ?_
  refine g_acmp_ne C 13 d_Arr_copyOf3_3 (by decide) (fun z => absurd rfl z) (fun _ => ?_)
  refine g_ldn C d_Arr_copyOf3_6 rfl ?_
  refine g_anew (kd := 4) C d_Arr_copyOf3_7 rfl m_121 (by decide +kernel) (by omega) (by decide) (by show 0 + b ≤ 80; omega) ?_
  have k1 := (gnew_ne w (b := ed) (.inl (4, b, .inr (.inr (.inr (.inr (fun _ => none)))))) (by omega)).trans h1
  have k2 := gnew_self w (.inl (4, b, .inr (.inr (.inr (.inr (fun _ => none))))))
  refine g_goto C 24 d_Arr_copyOf3_10 (by decide) ?_
  refine g_astn C [_, _, _, _] d_Arr_copyOf3_24 (Nat.le_of_ble_eq_true rfl) rfl ?_
  refine g_aldn C d_Arr_copyOf3_25 rfl ?_
  refine g_iconst (v := nI 0) C d_Arr_copyOf3_26 rfl ?_
  refine g_aldn C d_Arr_copyOf3_27 rfl ?_
  refine g_iconst (v := nI 0) C d_Arr_copyOf3_28 rfl ?_
  refine g_aldn C d_Arr_copyOf3_29 rfl ?_
  refine g_alen C d_Arr_copyOf3_30 k1 (by decide) ?_
  refine g_ldn C d_Arr_copyOf3_31 rfl ?_
  refine g_min (z := nI n) C d_Arr_copyOf3_32 mw_Arr_304 rfl (by decide) (Nat.le_of_ble_eq_true rfl) (by decide) (by show 0 + b ≤ 80; omega) (if_neg (nI_nlt hn (by omega))) ?_
  refine g_copyq C d_Arr_copyOf3_35 aw_Arr_150 k1 k2 (fun i hi y hy => ?_) (by omega) (by omega) (by omega) (by omega) rfl (by decide) (by decide) ?_
  · rw [Nat.zero_add] at hy
    obtain ⟨hlt, vs, e⟩ := hel i hi y hy
    exact ⟨kTree, vs, _, (gnew_ne _ _ (by omega)).trans e, rfl, by decide +kernel⟩
  refine g_aldn C d_Arr_copyOf3_38 rfl ?_
  exact g_aret C Rr d_Arr_copyOf3_39 (Or.inr ⟨_, rfl⟩) (Or.inr ⟨_, rfl⟩) (by decide) (by omega) ⟨_, rfl, rfl, by rw [gset_sz, gnew_sz], ⟨_, gset_self _ _ _, fun i hi => by unfold va_cpy; rw [if_pos (by omega)]; congr 1; omega⟩, fun p hp => (gset_ne _ _ (by omega)).trans (gnew_ne _ _ (by omega))⟩
set_option maxRecDepth 100000 in
set_option maxHeartbeats 4000000 in
theorem c_Arr_copyOf2 (N : gN) (w : gW) (ed n b : Nat) (g : Nat → Option Nat) (h1 : w.1 ed = some (.inl (4, n, .inr (.inr (.inr (.inr g)))))) (hel : ∀ i, i < n → ∀ y, g i = some y → y < w.2 ∧ ∃ vs, w.1 y = some (.inr (kTree, vs))) (hn : n ≤ b) (hb : b ≤ 80) (hsz : ed < w.2) : CtN N y_Arr_copyOf2 b_Arr_copyOf2 2 (some (FieldType.array (FieldType.object "java/lang/Object"))) (rmm 2 61 1 80) [.ref ed, .int (nI b)] w (pR (fun a w' => a = w.2 ∧ w'.2 = w.2 + 1 ∧ (∃ g', w'.1 w.2 = some (.inl (4, b, .inr (.inr (.inr (.inr g'))))) ∧ ∀ i, i < n → g' i = g i) ∧ ∀ p, p < w.2 → w'.1 p = w.1 p)) 1 80 := by
  refine ct_intro N [some (.ref ed), some (.int (nI b))] (by decide) rfl (Nat.le_of_ble_eq_true rfl) (by simp [Value.category]) ?_
  intro X hX C Rr
  subst hX
  refine g_aldn C d_Arr_copyOf2_0 rfl ?_
  refine g_ldn C d_Arr_copyOf2_1 rfl ?_
  refine g_aldn C d_Arr_copyOf2_2 rfl ?_
  refine g_getC C d_Arr_copyOf2_3 m_107 m_593 m_108 m_115 h1 rfl (by decide) (by show _ ≤ 61; simp [Value.category]) ?_
  refine g_callS C d_Arr_copyOf2_6 cw_Arr_300 ss_Arr_copyOf3 (c_Arr_copyOf3 X.1 w ed n b g h1 hel hn hb hsz) (As := [.ref ed, .int (nI b), .ref (X.1.2.2.2 6)]) rfl rfl rfl (Nat.le_of_ble_eq_true rfl) ⟨rfl, rfl, by decide, by decide⟩ ⟨by decide, by decide⟩ (kR (fun a w2 h2 => ?_))
  exact g_aret C Rr d_Arr_copyOf2_9 (Or.inr ⟨_, rfl⟩) (Or.inr ⟨_, rfl⟩) (by decide) (by decide) ⟨_, rfl, h2⟩
set_option maxRecDepth 100000 in
set_option maxHeartbeats 4000000 in
theorem c_AL_grow1 (N : gN) (w : gW) (l ed n : Nat) (g : Nat → Option Nat) (mo : Int32) (h0 : w.1 l = some (.inr (kAL, [.ref ed, .int (nI n), .int mo]))) (h1 : w.1 ed = some (.inl (4, n, .inr (.inr (.inr (.inr g)))))) (hel : ∀ i, i < n → ∀ y, g i = some y → y < w.2 ∧ ∃ vs, w.1 y = some (.inr (kTree, vs))) (h10 : 10 ≤ n) (hn : n ≤ 40) (hsz : ed < w.2) (hlz : l < w.2) : CtN N y_AL_grow1 b_AL_grow1 4 (some (FieldType.array (FieldType.object "java/lang/Object"))) (rmm 3 82 1 80) [.ref l, .int (nI (n + 1))] w (pR (fun a w' => a = w.2 ∧ w'.2 = w.2 + 1 ∧ w'.1 l = some (.inr (kAL, [.ref w.2, .int (nI n), .int mo])) ∧ (∃ g', w'.1 w.2 = some (.inl (4, (n + n / 2), .inr (.inr (.inr (.inr g'))))) ∧ ∀ i, i < n → g' i = g i) ∧ ∀ p, p < w.2 → p ≠ l → w'.1 p = w.1 p)) 1 80 := by
  refine ct_intro N [some (.ref l), some (.int (nI (n + 1))), none, none] (by decide) rfl (Nat.le_of_ble_eq_true rfl) (by simp [Value.category]) ?_
  intro X hX C Rr
  refine g_aldn C d_AL_grow1_0 rfl ?_
  refine g_get C d_AL_grow1_1 fl_AL_9 (by assumption) (by rfl) ?_
  refine g_alen C d_AL_grow1_4 h1 (by decide) ?_
  refine g_stn C [_, _, _, _] d_AL_grow1_5 (Nat.le_of_ble_eq_true rfl) rfl ?_
  refine g_ldn C d_AL_grow1_6 rfl ?_
  refine g_if_gt C 20 d_AL_grow1_7 (by decide) (by first | exact nI_toInt (by omega) | rfl) (fun b7 => ?_) (fun b7 => ?_)
  · refine g_ldn C d_AL_grow1_20 rfl ?_
    refine g_ldn C d_AL_grow1_21 rfl ?_
    refine g_ldn C d_AL_grow1_22 rfl ?_
    first | refine g_subN C d_AL_grow1_23 (by omega) ?_ | refine g_sub C d_AL_grow1_23 ?_
    refine g_ldn C d_AL_grow1_24 rfl ?_
    refine g_iconst (v := nI 1) C d_AL_grow1_25 rfl ?_
    refine g_shr (v := nI (n / 2)) C d_AL_grow1_26 (by have e := pk_shrN (n := n) (by omega) ((nI 1) &&& 31) 1 (by decide); rw [Nat.pow_one] at e; exact e) ?_
    refine g_callS C d_AL_grow1_27 cw_AL_73 ss_AS_newLength (c_AS_newLength X.1 w n (n + 1 - n) (n / 2) (by omega) (by omega)) (As := [.int (nI n), .int (nI (n + 1 - n)), .int (nI (n / 2))]) rfl rfl rfl (Nat.le_of_ble_eq_true rfl) ⟨rfl, rfl, by decide, by decide⟩ ⟨by decide, by decide⟩ (kI (fun r w2 h2 => ?_))
    obtain ⟨rfl, rfl⟩ := h2
    rw [show n + max (n + 1 - n) (n / 2) = n + n / 2 by omega]
    refine g_stn C [_, _, _, _] d_AL_grow1_30 (Nat.le_of_ble_eq_true rfl) rfl ?_
    refine g_aldn C d_AL_grow1_31 rfl ?_
    refine g_aldn C d_AL_grow1_32 rfl ?_
    refine g_get C d_AL_grow1_33 fl_AL_9 (by assumption) (by rfl) ?_
    refine g_ldn C d_AL_grow1_36 rfl ?_
    refine g_callS C d_AL_grow1_37 cw_AL_66 ss_Arr_copyOf2 (c_Arr_copyOf2 X.1 w2 ed n (n + n / 2) g h1 hel (by omega) (by omega) hsz) (As := [.ref ed, .int (nI (n + n / 2))]) rfl rfl rfl (Nat.le_of_ble_eq_true rfl) ⟨rfl, rfl, by decide, by decide⟩ ⟨by decide, by decide⟩ (kR (fun a w3 h3 => ?_))
    obtain ⟨rfl, z1, z2, z3⟩ := h3
    have k0 := (z3 l hlz).trans h0
    refine g_dupx1 C d_AL_grow1_40 rfl rfl ?_
    refine g_put C d_AL_grow1_41 fl_AL_9 ft_AL (ty := .array (.object "java/lang/Object")) ⟨_, _, _, rfl, rfl, by decide +kernel⟩ k0 rfl rfl (Nat.le_of_ble_eq_true rfl) rfl ?_
    obtain ⟨g', y1, y2⟩ := z2
    exact g_aret C Rr d_AL_grow1_44 (Or.inr ⟨_, rfl⟩) (Or.inr ⟨_, rfl⟩) (by decide) (by decide) ⟨_, rfl, rfl, by rw [gset_sz, z1], gset_self _ _ _, ⟨g', (gset_ne _ _ (by omega)).trans y1, y2⟩, fun p hp hpl => (gset_ne _ _ hpl).trans (z3 p hp)⟩
  · exfalso; omega
set_option maxRecDepth 100000 in
set_option maxHeartbeats 4000000 in
theorem c_AL_grow1z (N : gN) (w : gW) (l : Nat) (mo : Int32) (h0 : w.1 l = some (.inr (kAL, [.ref (N.2.2.2 5), .int (nI 0), .int mo]))) (hlz : l < w.2) : CtN N y_AL_grow1 b_AL_grow1 4 (some (FieldType.array (FieldType.object "java/lang/Object"))) (rmm 3 82 1 80) [.ref l, .int (nI (0 + 1))] w (pR (fun a w' => a = w.2 ∧ w'.2 = w.2 + 1 ∧ w'.1 l = some (.inr (kAL, [.ref w.2, .int (nI 0), .int mo])) ∧ (∃ g', w'.1 w.2 = some (.inl (4, 10, .inr (.inr (.inr (.inr g')))))) ∧ ∀ p, p < w.2 → p ≠ l → w'.1 p = w.1 p)) 1 80 := by
  refine ct_intro N [some (.ref l), some (.int (nI (0 + 1))), none, none] (by decide) rfl (Nat.le_of_ble_eq_true rfl) (by simp [Value.category]) ?_
  intro X hX C Rr
  subst hX
  refine g_aldn C d_AL_grow1_0 rfl ?_
  refine g_get C d_AL_grow1_1 fl_AL_9 (by assumption) (by rfl) ?_
  refine g_alenZ C d_AL_grow1_4 ?_
  refine g_stn C [_, _, _, _] d_AL_grow1_5 (Nat.le_of_ble_eq_true rfl) rfl ?_
  refine g_ldn C d_AL_grow1_6 rfl ?_
  refine g_if_gt C 20 d_AL_grow1_7 (by decide) (by first | exact nI_toInt (by omega) | rfl) (fun b7 => ?_) (fun b7 => ?_)
  · exfalso; omega
  · refine g_aldn C d_AL_grow1_10 rfl ?_
    refine g_get C d_AL_grow1_11 fl_AL_9 (by assumption) (by rfl) ?_
    refine g_getsZ C d_AL_grow1_14 m_34 ?_
    refine g_acmp_eq C 45 d_AL_grow1_17 (by decide) (fun _ => ?_) (fun z => absurd rfl z)
    refine g_aldn C d_AL_grow1_45 rfl ?_
    refine g_bipush (v := nI 10) C d_AL_grow1_46 (by decide) ?_
    refine g_ldn C d_AL_grow1_48 rfl ?_
    refine g_max (z := nI 10) C d_AL_grow1_49 mw_AL_79 rfl (by decide) (Nat.le_of_ble_eq_true rfl) (by decide) (by decide) (by decide) ?_
    refine g_anew (kd := 4) C d_AL_grow1_52 rfl m_129 (by decide +kernel) (by decide) (by decide) (by decide) ?_
    have k0 := (gnew_ne w (b := l) (.inl (4, 10, .inr (.inr (.inr (.inr (fun _ => none)))))) (by omega)).trans h0
    refine g_dupx1 C d_AL_grow1_55 rfl rfl ?_
    refine g_put C d_AL_grow1_56 fl_AL_9 ft_AL (ty := .array (.object "java/lang/Object")) ⟨_, _, _, rfl, rfl, by decide +kernel⟩ k0 rfl rfl (Nat.le_of_ble_eq_true rfl) rfl ?_
    exact g_aret C Rr d_AL_grow1_59 (Or.inr ⟨_, rfl⟩) (Or.inr ⟨_, rfl⟩) (by decide) (by decide) ⟨_, rfl, rfl, by rw [gset_sz, gnew_sz], gset_self _ _ _, ⟨_, (gset_ne _ _ (by omega)).trans (gnew_self _ _)⟩, fun p hp hpl => (gset_ne _ _ hpl).trans (gnew_ne _ _ (by omega))⟩
set_option maxRecDepth 100000 in
set_option maxHeartbeats 4000000 in
theorem c_AL_grow0 (N : gN) (w : gW) (l ed n : Nat) (g : Nat → Option Nat) (mo : Int32) (h0 : w.1 l = some (.inr (kAL, [.ref ed, .int (nI n), .int mo]))) (h1 : w.1 ed = some (.inl (4, n, .inr (.inr (.inr (.inr g)))))) (hel : ∀ i, i < n → ∀ y, g i = some y → y < w.2 ∧ ∃ vs, w.1 y = some (.inr (kTree, vs))) (h10 : 10 ≤ n) (hn : n ≤ 40) (hsz : ed < w.2) (hlz : l < w.2) : CtN N y_AL_grow0 b_AL_grow0 1 (some (FieldType.array (FieldType.object "java/lang/Object"))) (rmm 4 105 1 80) [.ref l] w (pR (fun a w' => a = w.2 ∧ w'.2 = w.2 + 1 ∧ w'.1 l = some (.inr (kAL, [.ref w.2, .int (nI n), .int mo])) ∧ (∃ g', w'.1 w.2 = some (.inl (4, (n + n / 2), .inr (.inr (.inr (.inr g'))))) ∧ ∀ i, i < n → g' i = g i) ∧ ∀ p, p < w.2 → p ≠ l → w'.1 p = w.1 p)) 1 80 := by
  refine ct_intro N [some (.ref l)] (by decide) rfl (Nat.le_of_ble_eq_true rfl) (by simp [Value.category]) ?_
  intro X hX C Rr
  refine g_aldn C d_AL_grow0_0 rfl ?_
  refine g_aldn C d_AL_grow0_1 rfl ?_
  refine g_get C d_AL_grow0_2 fl_AL_48 (by assumption) (by rfl) ?_
  refine g_iconst (v := nI 1) C d_AL_grow0_5 rfl ?_
  first | refine g_addN C d_AL_grow0_6 ?_ | refine g_add C d_AL_grow0_6 ?_
  refine g_callV (ci := kAL) C d_AL_grow0_7 cw_AL_69 sl_AL_grow1 (c_AL_grow1 X.1 w l ed n g mo h0 h1 hel h10 hn hsz hlz) rfl h0 (As := [.int (nI (n + 1))]) rfl rfl rfl (Nat.le_of_ble_eq_true rfl) ⟨rfl, rfl, by decide, by decide⟩ ⟨by decide, by decide⟩ (kR (fun a w2 h2 => ?_))
  exact g_aret C Rr d_AL_grow0_10 (Or.inr ⟨_, rfl⟩) (Or.inr ⟨_, rfl⟩) (by decide) (by decide) ⟨_, rfl, h2⟩
set_option maxRecDepth 100000 in
set_option maxHeartbeats 4000000 in
theorem c_AL_grow0z (N : gN) (w : gW) (l : Nat) (mo : Int32) (h0 : w.1 l = some (.inr (kAL, [.ref (N.2.2.2 5), .int (nI 0), .int mo]))) (hlz : l < w.2) : CtN N y_AL_grow0 b_AL_grow0 1 (some (FieldType.array (FieldType.object "java/lang/Object"))) (rmm 4 105 1 80) [.ref l] w (pR (fun a w' => a = w.2 ∧ w'.2 = w.2 + 1 ∧ w'.1 l = some (.inr (kAL, [.ref w.2, .int (nI 0), .int mo])) ∧ (∃ g', w'.1 w.2 = some (.inl (4, 10, .inr (.inr (.inr (.inr g')))))) ∧ ∀ p, p < w.2 → p ≠ l → w'.1 p = w.1 p)) 1 80 := by
  refine ct_intro N [some (.ref l)] (by decide) rfl (Nat.le_of_ble_eq_true rfl) (by simp [Value.category]) ?_
  intro X hX C Rr
  subst hX
  refine g_aldn C d_AL_grow0_0 rfl ?_
  refine g_aldn C d_AL_grow0_1 rfl ?_
  refine g_get C d_AL_grow0_2 fl_AL_48 (by assumption) (by rfl) ?_
  refine g_iconst (v := nI 1) C d_AL_grow0_5 rfl ?_
  first | refine g_addN C d_AL_grow0_6 ?_ | refine g_add C d_AL_grow0_6 ?_
  refine g_callV (ci := kAL) C d_AL_grow0_7 cw_AL_69 sl_AL_grow1 (c_AL_grow1z X.1 w l mo h0 hlz) rfl h0 (As := [.int (nI (0 + 1))]) rfl rfl rfl (Nat.le_of_ble_eq_true rfl) ⟨rfl, rfl, by decide, by decide⟩ ⟨by decide, by decide⟩ (kR (fun a w2 h2 => ?_))
  exact g_aret C Rr d_AL_grow0_10 (Or.inr ⟨_, rfl⟩) (Or.inr ⟨_, rfl⟩) (by decide) (by decide) ⟨_, rfl, h2⟩
theorem gd_snoc {ts : List Nat} {e i : Nat} (h : i < (ts ++ [e]).length) : gd 0 (ts ++ [e]) i = if i = ts.length then e else gd 0 ts i := by
  by_cases c : i = ts.length
  · subst c; rw [if_pos rfl, gd_r (Nat.le_refl _), Nat.sub_self, gd_0]
  · rw [if_neg c, gd_l (by simp at h; omega)]
set_option maxRecDepth 100000 in
set_option maxHeartbeats 4000000 in
theorem c_AL_add3 (N : gN) (w : gW) (l ed : Nat) (ts : List Nat) (e : Nat) (vs : List Value) (he : w.1 e = some (.inr (kTree, vs))) (hez : e < w.2) (hel2 : e ≠ l) (hee : e ≠ ed) (hts : ∀ i, i < ts.length → gd 0 ts i < w.2 ∧ ∃ vs, w.1 (gd 0 ts i) = some (.inr (kTree, vs))) (hlt : ts.length < 40) (hled : l ≠ ed) (hlz : l < w.2) (hsz : ed < w.2) (hA : ALV w l ed ts) : CtN N y_AL_add3 b_AL_add3 4 none (rmm 5 125 1 80) [.ref l, .ref e, .ref ed, .int (nI ts.length)] w (pV (fun w' => ∃ ed', ALV w' l ed' (ts ++ [e]) ∧ (ed' = ed ∨ ed' = w.2) ∧ (w'.2 = w.2 ∨ w'.2 = w.2 + 1) ∧ ed' < w'.2 ∧ ∀ p, p < w.2 → p ≠ l → p ≠ ed → w'.1 p = w.1 p)) 1 80 := by
  obtain ⟨cap, g, mo, h0, h1, hl1, hl2, hl3, hg⟩ := hA
  refine ct_intro N [some (.ref l), some (.ref e), some (.ref ed), some (.int (nI ts.length))] (by decide) rfl (Nat.le_of_ble_eq_true rfl) (by simp [Value.category]) ?_
  intro X hX C Rr
  refine g_ldn C d_AL_add3_0 rfl ?_
  refine g_aldn C d_AL_add3_1 rfl ?_
  refine g_alen C d_AL_add3_2 h1 (by decide) ?_
  refine g_icmp_ne C 11 d_AL_add3_3 (by decide) (by first | exact nI_toInt (by omega) | rfl) (by first | exact nI_toInt (by omega) | rfl) (fun b3 => ?_) (fun b3 => ?_)
  · refine g_aldn C d_AL_add3_11 rfl ?_
    refine g_ldn C d_AL_add3_12 rfl ?_
    refine g_aldn C d_AL_add3_13 rfl ?_
    refine g_aast4 (ci := kTree) C d_AL_add3_14 h1 he rfl (by decide +kernel) (by omega) (by omega) ?_
    have k0 := (gset_ne w (a := ed) (b := l) (.inl (4, cap, .inr (.inr (.inr (.inr (va_up g ts.length (some e))))))) hled).trans h0
    refine g_aldn C d_AL_add3_15 rfl ?_
    refine g_ldn C d_AL_add3_16 rfl ?_
    refine g_iconst (v := nI 1) C d_AL_add3_17 rfl ?_
    first | refine g_addN C d_AL_add3_18 ?_ | refine g_add C d_AL_add3_18 ?_
    refine g_put C d_AL_add3_19 fl_AL_48 ft_AL (ty := .int) ⟨_, _, _, rfl, rfl, by decide +kernel⟩ k0 rfl rfl (Nat.le_of_ble_eq_true rfl) rfl ?_
    refine g_vret C Rr d_AL_add3_22 (by decide) (by decide) ⟨rfl, ed, ⟨cap, va_up g ts.length (some e), mo, by rw [gset_self, List.length_append]; rfl, (gset_ne _ _ (Ne.symm hled)).trans (gset_self _ _ _), by simp; omega, hl2, hl3, fun i hi => ?_⟩, Or.inl rfl, Or.inl rfl, hsz, fun p hp h1 h2 => (gset_ne _ _ h1).trans (gset_ne _ _ h2)⟩
    rw [gd_snoc hi]
    by_cases c : i = ts.length
    · subst c; rw [va_up_self, if_pos rfl]
    · rw [va_up_ne _ _ c, if_neg c]; exact hg i (by simp at hi; omega)
  · have hcap : cap = ts.length := by omega
    subst hcap
    refine g_aldn C d_AL_add3_6 rfl ?_
    refine g_callV (ci := kAL) C d_AL_add3_7 cw_AL_129 sl_AL_grow0 (c_AL_grow0 X.1 w l ed ts.length g mo h0 h1 (fun i hi y hy => by rw [hg i hi] at hy; cases hy; exact hts i hi) hl2 (by omega) hsz hlz) rfl h0 (As := []) rfl rfl rfl (Nat.le_of_ble_eq_true rfl) ⟨rfl, rfl, by decide, by decide⟩ ⟨by decide, by decide⟩ (kR (fun a w2 h2 => ?_))
    obtain ⟨rfl, z1, z2, ⟨g', y1, y2⟩, z3⟩ := h2
    have he2 := (z3 e hez hel2).trans he
    refine g_astn C [_, _, _, _] d_AL_add3_10 (Nat.le_of_ble_eq_true rfl) rfl ?_
    refine g_aldn C d_AL_add3_11 rfl ?_
    refine g_ldn C d_AL_add3_12 rfl ?_
    refine g_aldn C d_AL_add3_13 rfl ?_
    refine g_aast4 (ci := kTree) C d_AL_add3_14 y1 he2 rfl (by decide +kernel) (by omega) (by omega) ?_
    have k0 := (gset_ne w2 (a := w.2) (b := l) (.inl (4, (ts.length + ts.length / 2), .inr (.inr (.inr (.inr (va_up g' ts.length (some e))))))) (by omega)).trans z2
    refine g_aldn C d_AL_add3_15 rfl ?_
    refine g_ldn C d_AL_add3_16 rfl ?_
    refine g_iconst (v := nI 1) C d_AL_add3_17 rfl ?_
    first | refine g_addN C d_AL_add3_18 ?_ | refine g_add C d_AL_add3_18 ?_
    refine g_put C d_AL_add3_19 fl_AL_48 ft_AL (ty := .int) ⟨_, _, _, rfl, rfl, by decide +kernel⟩ k0 rfl rfl (Nat.le_of_ble_eq_true rfl) rfl ?_
    refine g_vret C Rr d_AL_add3_22 (by decide) (by decide) ⟨rfl, w.2, ⟨ts.length + ts.length / 2, va_up g' ts.length (some e), mo, by rw [gset_self, List.length_append]; rfl, (gset_ne _ _ (by omega)).trans (gset_self _ _ _), by simp; omega, by omega, by omega, fun i hi => ?_⟩, Or.inr rfl, Or.inr (by rw [gset_sz, gset_sz, z1]), by rw [gset_sz, gset_sz, z1]; omega, fun p hp h1 h2 => (gset_ne _ _ h1).trans ((gset_ne _ _ (by omega)).trans (z3 p hp h1))⟩
    rw [gd_snoc hi]
    by_cases c : i = ts.length
    · subst c; rw [va_up_self, if_pos rfl]
    · rw [va_up_ne _ _ c, if_neg c, y2 i (by simp at hi; omega)]; exact hg i (by simp at hi; omega)
set_option maxRecDepth 100000 in
set_option maxHeartbeats 4000000 in
theorem c_AL_add3z (N : gN) (w : gW) (l : Nat) (mo : Int32) (e : Nat) (vs : List Value) (he : w.1 e = some (.inr (kTree, vs))) (hez : e < w.2) (hel2 : e ≠ l) (h0 : w.1 l = some (.inr (kAL, [.ref (N.2.2.2 5), .int (nI 0), .int mo]))) (hlz : l < w.2) : CtN N y_AL_add3 b_AL_add3 4 none (rmm 5 125 1 80) [.ref l, .ref e, .ref (N.2.2.2 5), .int (nI 0)] w (pV (fun w' => ALV w' l w.2 [e] ∧ w'.2 = w.2 + 1 ∧ ∀ p, p < w.2 → p ≠ l → w'.1 p = w.1 p)) 1 80 := by
  refine ct_intro N [some (.ref l), some (.ref e), some (.ref (N.2.2.2 5)), some (.int (nI 0))] (by decide) rfl (Nat.le_of_ble_eq_true rfl) (by simp [Value.category]) ?_
  intro X hX C Rr
  subst hX
  refine g_ldn C d_AL_add3_0 rfl ?_
  refine g_aldn C d_AL_add3_1 rfl ?_
  refine g_alenZ C d_AL_add3_2 ?_
  refine g_icmp_ne C 11 d_AL_add3_3 (by decide) (by first | exact nI_toInt (by omega) | rfl) (by first | exact nI_toInt (by omega) | rfl) (fun b3 => ?_) (fun b3 => ?_)
  · exfalso; omega
  · refine g_aldn C d_AL_add3_6 rfl ?_
    refine g_callV (ci := kAL) C d_AL_add3_7 cw_AL_129 sl_AL_grow0 (c_AL_grow0z X.1 w l mo h0 hlz) rfl h0 (As := []) rfl rfl rfl (Nat.le_of_ble_eq_true rfl) ⟨rfl, rfl, by decide, by decide⟩ ⟨by decide, by decide⟩ (kR (fun a w2 h2 => ?_))
    obtain ⟨rfl, z1, z2, ⟨g', y1⟩, z3⟩ := h2
    have he2 := (z3 e hez hel2).trans he
    refine g_astn C [_, _, _, _] d_AL_add3_10 (Nat.le_of_ble_eq_true rfl) rfl ?_
    refine g_aldn C d_AL_add3_11 rfl ?_
    refine g_ldn C d_AL_add3_12 rfl ?_
    refine g_aldn C d_AL_add3_13 rfl ?_
    refine g_aast4 (ci := kTree) C d_AL_add3_14 y1 he2 rfl (by decide +kernel) (by omega) (by omega) ?_
    have k0 := (gset_ne w2 (a := w.2) (b := l) (.inl (4, 10, .inr (.inr (.inr (.inr (va_up g' 0 (some e))))))) (by omega)).trans z2
    refine g_aldn C d_AL_add3_15 rfl ?_
    refine g_ldn C d_AL_add3_16 rfl ?_
    refine g_iconst (v := nI 1) C d_AL_add3_17 rfl ?_
    first | refine g_addN C d_AL_add3_18 ?_ | refine g_add C d_AL_add3_18 ?_
    refine g_put C d_AL_add3_19 fl_AL_48 ft_AL (ty := .int) ⟨_, _, _, rfl, rfl, by decide +kernel⟩ k0 rfl rfl (Nat.le_of_ble_eq_true rfl) rfl ?_
    refine g_vret C Rr d_AL_add3_22 (by decide) (by decide) ⟨rfl, ⟨10, va_up g' 0 (some e), mo, gset_self _ _ _, (gset_ne _ _ (by omega)).trans (gset_self _ _ _), by simp, by omega, by omega, fun i hi => ?_⟩, by rw [gset_sz, gset_sz, z1], fun p hp h1 => (gset_ne _ _ h1).trans ((gset_ne _ _ (by omega)).trans (z3 p hp h1))⟩
    have : i = 0 := by simp at hi; omega
    subst this
    rw [va_up_self, gd_0]
set_option maxRecDepth 100000 in
set_option maxHeartbeats 4000000 in
theorem c_AL_add (N : gN) (w : gW) (l ed : Nat) (ts : List Nat) (e : Nat) (vs : List Value) (he : w.1 e = some (.inr (kTree, vs))) (hez : e < w.2) (hel2 : e ≠ l) (hee : e ≠ ed) (hts : ∀ i, i < ts.length → gd 0 ts i < w.2 ∧ ∃ vs, w.1 (gd 0 ts i) = some (.inr (kTree, vs))) (hlt : ts.length < 40) (hled : l ≠ ed) (hlz : l < w.2) (hsz : ed < w.2) (hA : ALV w l ed ts) : CtN N y_AL_add b_AL_add 2 (some FieldType.boolean) (rmm 6 148 1 80) [.ref l, .ref e] w (pI (fun r w' => ∃ ed', ALV w' l ed' (ts ++ [e]) ∧ (ed' = ed ∨ ed' = w.2) ∧ (w'.2 = w.2 ∨ w'.2 = w.2 + 1) ∧ ed' < w'.2 ∧ ∀ p, p < w.2 → p ≠ l → p ≠ ed → w'.1 p = w.1 p)) 1 80 := by
  obtain ⟨cap, g, mo, h0, h1, hl1, hl2, hl3, hg⟩ := hA
  refine ct_intro N [some (.ref l), some (.ref e)] (by decide) rfl (Nat.le_of_ble_eq_true rfl) (by simp [Value.category]) ?_
  intro X hX C Rr
  refine g_aldn C d_AL_add_0 rfl ?_
  refine g_dup C d_AL_add_1 rfl ?_
  refine g_getX C d_AL_add_2 flx_63 h0 rfl ?_
  refine g_iconst (v := nI 1) C d_AL_add_5 rfl ?_
  refine g_add C d_AL_add_6 ?_
  refine g_putX C d_AL_add_7 flx_63 ft_AL (ty := .int) ⟨_, _, _, rfl, rfl, by decide +kernel⟩ h0 rfl rfl (Nat.le_of_ble_eq_true rfl) rfl ?_
  have k0 := gset_self w l (.inr (kAL, [.ref ed, .int (nI ts.length), .int (mo + nI 1)]))
  have k1 := (gset_ne w (a := l) (b := ed) (.inr (kAL, [.ref ed, .int (nI ts.length), .int (mo + nI 1)])) (Ne.symm hled)).trans h1
  have hA2 : ALV (gset w l (.inr (kAL, [.ref ed, .int (nI ts.length), .int (mo + nI 1)]))) l ed ts := ⟨cap, g, mo + nI 1, k0, k1, hl1, hl2, hl3, hg⟩
  refine g_aldn C d_AL_add_10 rfl ?_
  refine g_aldn C d_AL_add_11 rfl ?_
  refine g_aldn C d_AL_add_12 rfl ?_
  refine g_get C d_AL_add_13 fl_AL_9 k0 (by rfl) ?_
  refine g_aldn C d_AL_add_16 rfl ?_
  refine g_get C d_AL_add_17 fl_AL_48 k0 (by rfl) ?_
  refine g_callV (ci := kAL) C d_AL_add_20 cw_AL_131 sl_AL_add3 (c_AL_add3 X.1 (gset w l (.inr (kAL, [.ref ed, .int (nI ts.length), .int (mo + nI 1)]))) l ed ts e vs ((gset_ne _ _ hel2).trans he) hez hel2 hee (fun i hi => ⟨(hts i hi).1, (hts i hi).2.elim (fun vs2 q2 => ⟨vs2, (gset_ne _ _ (fun c => by rw [c] at q2; rw [h0] at q2; cases q2)).trans q2⟩)⟩) hlt hled hlz hsz hA2) rfl k0 (As := [.ref e, .ref ed, .int (nI ts.length)]) rfl rfl rfl (Nat.le_of_ble_eq_true rfl) ⟨rfl, rfl, by decide, by decide⟩ ⟨by decide, by decide⟩ (kV (fun w2 h2 => ?_))
  obtain ⟨ed', q1, q2, q3, q4, q5⟩ := h2
  refine g_iconst (v := nI 1) C d_AL_add_23 rfl ?_
  exact g_iret C Rr d_AL_add_24 rfl (by decide) (by decide) ⟨_, rfl, ed', q1, q2, q3, q4, fun p hp hp1 hp2 => (q5 p hp hp1 hp2).trans (gset_ne _ _ hp1)⟩
set_option maxRecDepth 100000 in
set_option maxHeartbeats 4000000 in
theorem c_AL_addz (N : gN) (w : gW) (l : Nat) (mo : Int32) (e : Nat) (vs : List Value) (he : w.1 e = some (.inr (kTree, vs))) (hez : e < w.2) (hel2 : e ≠ l) (h0 : w.1 l = some (.inr (kAL, [.ref (N.2.2.2 5), .int (nI 0), .int mo]))) (hlz : l < w.2) : CtN N y_AL_add b_AL_add 2 (some FieldType.boolean) (rmm 6 148 1 80) [.ref l, .ref e] w (pI (fun r w' => ALV w' l w.2 [e] ∧ w'.2 = w.2 + 1 ∧ ∀ p, p < w.2 → p ≠ l → w'.1 p = w.1 p)) 1 80 := by
  refine ct_intro N [some (.ref l), some (.ref e)] (by decide) rfl (Nat.le_of_ble_eq_true rfl) (by simp [Value.category]) ?_
  intro X hX C Rr
  subst hX
  refine g_aldn C d_AL_add_0 rfl ?_
  refine g_dup C d_AL_add_1 rfl ?_
  refine g_getX C d_AL_add_2 flx_63 h0 rfl ?_
  refine g_iconst (v := nI 1) C d_AL_add_5 rfl ?_
  refine g_add C d_AL_add_6 ?_
  refine g_putX C d_AL_add_7 flx_63 ft_AL (ty := .int) ⟨_, _, _, rfl, rfl, by decide +kernel⟩ h0 rfl rfl (Nat.le_of_ble_eq_true rfl) rfl ?_
  have k0 := gset_self w l (.inr (kAL, [.ref (X.1.2.2.2 5), .int (nI 0), .int (mo + nI 1)]))
  refine g_aldn C d_AL_add_10 rfl ?_
  refine g_aldn C d_AL_add_11 rfl ?_
  refine g_aldn C d_AL_add_12 rfl ?_
  refine g_get C d_AL_add_13 fl_AL_9 k0 (by rfl) ?_
  refine g_aldn C d_AL_add_16 rfl ?_
  refine g_get C d_AL_add_17 fl_AL_48 k0 (by rfl) ?_
  refine g_callV (ci := kAL) C d_AL_add_20 cw_AL_131 sl_AL_add3 (c_AL_add3z X.1 (gset w l (.inr (kAL, [.ref (X.1.2.2.2 5), .int (nI 0), .int (mo + nI 1)]))) l (mo + nI 1) e vs ((gset_ne _ _ hel2).trans he) hez hel2 k0 hlz) rfl k0 (As := [.ref e, .ref (X.1.2.2.2 5), .int (nI 0)]) rfl rfl rfl (Nat.le_of_ble_eq_true rfl) ⟨rfl, rfl, by decide, by decide⟩ ⟨by decide, by decide⟩ (kV (fun w2 h2 => ?_))
  refine g_iconst (v := nI 1) C d_AL_add_23 rfl ?_
  exact g_iret C Rr d_AL_add_24 rfl (by decide) (by decide) ⟨_, rfl, h2.1, h2.2.1, fun p hp hp1 => (h2.2.2 p hp hp1).trans (gset_ne _ _ hp1)⟩
set_option maxRecDepth 100000 in
set_option maxHeartbeats 4000000 in
theorem c_AC_init (N : gN) (w : gW) (l : Nat) : CtN N y_AC_init b_AC_init 1 none (rmm 1 20 0 0) [.ref l] w (pV (fun w' => w' = w)) 0 0 := by
  refine ct_intro N [some (.ref l)] (by decide) rfl (Nat.le_of_ble_eq_true rfl) (by simp [Value.category]) ?_
  intro X hX C Rr
  refine g_aldn C d_AC_init_0 rfl ?_
  refine g_objInit C d_AC_init_1 ow_AC_1 oi_inst oi_code rfl (by decide) (by decide) ?_
  exact g_vret C Rr d_AC_init_4 (by decide) (by decide) ⟨rfl, rfl⟩
set_option maxRecDepth 100000 in
set_option maxHeartbeats 4000000 in
theorem c_ALa_init (N : gN) (w : gW) (l : Nat) (a : Value) (b c : Int32) (h0 : w.1 l = some (.inr (kAL, [a, .int b, .int c]))) : CtN N y_ALa_init b_ALa_init 1 none (rmm 2 40 0 0) [.ref l] w (pV (fun w' => w' = gset w l (.inr (kAL, [a, .int b, .int (nI 0)])))) 0 0 := by
  refine ct_intro N [some (.ref l)] (by decide) rfl (Nat.le_of_ble_eq_true rfl) (by simp [Value.category]) ?_
  intro X hX C Rr
  refine g_aldn C d_ALa_init_0 rfl ?_
  refine g_callI C d_ALa_init_1 cw_ALa_1 si_AC_init (c_AC_init X.1 w l) (As := []) rfl rfl rfl (Nat.le_of_ble_eq_true rfl) ⟨rfl, rfl, by decide, by decide⟩ ⟨by decide, by decide⟩ (kV (fun w2 h2 => ?_))
  subst h2
  refine g_aldn C d_ALa_init_4 rfl ?_
  refine g_iconst (v := nI 0) C d_ALa_init_5 rfl ?_
  refine g_putX C d_ALa_init_6 flx_7 ft_AL (ty := .int) ⟨_, _, _, rfl, rfl, by decide +kernel⟩ h0 rfl rfl (Nat.le_of_ble_eq_true rfl) rfl ?_
  exact g_vret C Rr d_ALa_init_9 (by decide) (by decide) ⟨rfl, rfl⟩
set_option maxRecDepth 100000 in
set_option maxHeartbeats 4000000 in
theorem c_AL_init (N : gN) (w : gW) (l : Nat) (h0 : w.1 l = some (.inr (kAL, [.null, .int (nI 0), .int (nI 0)]))) : CtN N y_AL_init b_AL_init 1 none (rmm 3 60 0 0) [.ref l] w (pV (fun w' => Sm w w' l (l + 1) ∧ w'.1 l = some (.inr (kAL, [.ref (N.2.2.2 5), .int (nI 0), .int (nI 0)])))) 0 0 := by
  refine ct_intro N [some (.ref l)] (by decide) rfl (Nat.le_of_ble_eq_true rfl) (by simp [Value.category]) ?_
  intro X hX C Rr
  subst hX
  refine g_aldn C d_AL_init_0 rfl ?_
  refine g_callI C d_AL_init_1 cw_AL_1 si_ALa_init (c_ALa_init X.1 w l .null (nI 0) (nI 0) h0) (As := []) rfl rfl rfl (Nat.le_of_ble_eq_true rfl) ⟨rfl, rfl, by decide, by decide⟩ ⟨by decide, by decide⟩ (kV (fun w2 h2 => ?_))
  subst h2
  have k0 := gset_self w l (.inr (kAL, [.null, .int (nI 0), .int (nI 0)]))
  refine g_aldn C d_AL_init_4 rfl ?_
  refine g_getsZ C d_AL_init_5 m_34 ?_
  refine g_put C d_AL_init_8 fl_AL_9 ft_AL (ty := .array (.object "java/lang/Object")) ⟨_, _, _, rfl, rfl, by decide +kernel⟩ k0 rfl rfl (Nat.le_of_ble_eq_true rfl) rfl ?_
  exact g_vret C Rr d_AL_init_11 (by decide) (by decide) ⟨rfl, (Sm.set (by omega) (by omega)).trans (Sm.set (by omega) (by omega)), gset_self _ _ _⟩
