/-! ROW: contracts of the class's rows. -/
def Sn (w w' : gW) (lo n : Nat) : Prop := w'.2 = w.2 + n ∧ ∀ p : Nat, p < lo → w'.1 p = w.1 p
theorem i32_sgn (k : Int32) : k.toInt < 0 ∨ ∃ j : Nat, j < 2 ^ 31 ∧ k = nI j := by
  by_cases h : k < 0
  · left; have := i32_lt.mp h; rw [i32_0] at this; exact this
  · right; exact nI_of h
def cellR (L : List Int32) (k : Int32) : Int32 := if 0 ≤ k.toInt then gd 0 L k.toInt.toNat else 0
theorem cellR_N {L : List Int32} {j : Nat} (h : j < 2 ^ 31) : cellR L (nI j) = gd 0 L j := by
  unfold cellR
  rw [nI_toInt h, if_pos (by omega)]
  rfl
set_option maxRecDepth 100000 in
set_option maxHeartbeats 4000000 in
theorem c_Row_clear (N : gN) (w : gW) (q : Nat) (L : List Int32) (hq : RowV w q L) : CtN N y_Row_clear b_Row_clear 1 none (rmm 0 0 0 0) [.ref q] w (pV (fun w' => Sm w w' q (q + 2) ∧ RowV w' q [])) 0 0 := by
  obtain ⟨f, h0, h1, hlen, hf⟩ := hq
  refine ct_intro N [some (.ref q)] (by decide) rfl (Nat.le_of_ble_eq_true rfl) (by simp [Value.category]) ?_
  intro X hX C Rr
  refine g_aldn C d_Row_clear_0 rfl ?_
  refine g_iconst (v := nI 0) C d_Row_clear_1 rfl ?_
  refine g_put C d_Row_clear_2 fl_Row_15 ft_Row (ty := .int) ⟨_, _, _, rfl, rfl, by decide +kernel⟩ (by assumption) rfl rfl (Nat.le_of_ble_eq_true rfl) rfl ?_
  exact g_vret C Rr d_Row_clear_5 (by decide) (by decide) ⟨rfl, Sm.set (by omega) (by omega), f, gset_self _ _ _, (gset_ne _ _ (by omega)).trans h1, by simp, fun i hi => by simp at hi⟩
set_option maxRecDepth 100000 in
set_option maxHeartbeats 4000000 in
theorem c_Row_cell (N : gN) (w : gW) (q : Nat) (L : List Int32) (k : Int32) (hq : RowV w q L) : CtN N y_Row_cell b_Row_cell 2 (some FieldType.int) (rmm 0 0 0 0) [.ref q, .int k] w (pI (fun r w' => w' = w ∧ r = cellR L k)) 0 0 := by
  obtain ⟨f, h0, h1, hlen, hf⟩ := hq
  refine ct_intro N [some (.ref q), some (.int k)] (by decide) rfl (Nat.le_of_ble_eq_true rfl) (by simp [Value.category]) ?_
  intro X hX C Rr
  rcases i32_sgn k with hk | ⟨j, hj, rfl⟩
  · have e : cellR L k = 0 := by unfold cellR; rw [if_neg (by omega)]
    refine g_ldn C d_Row_cell_0 rfl ?_
    refine g_if_lt C 21 d_Row_cell_1 (by decide) (by first | exact nI_toInt (by omega) | rfl) (fun b1 => ?_) (fun b1 => ?_)
    · refine g_iconst (v := nI 0) C d_Row_cell_21 rfl ?_
      exact g_iret C Rr d_Row_cell_22 rfl (by decide) (by decide) ⟨_, rfl, rfl, e.symm⟩
    · exact absurd hk (by omega)
  · refine g_ldn C d_Row_cell_0 rfl ?_
    refine g_if_lt C 21 d_Row_cell_1 (by decide) (by first | exact nI_toInt (by omega) | rfl) (fun b1 => ?_) (fun b1 => ?_)
    · exfalso; omega
    · refine g_ldn C d_Row_cell_4 rfl ?_
      refine g_aldn C d_Row_cell_5 rfl ?_
      refine g_get C d_Row_cell_6 fl_Row_15 (by assumption) (by rfl) ?_
      refine g_icmp_ge C 21 d_Row_cell_9 (by decide) (by first | exact nI_toInt (by omega) | rfl) (by first | exact nI_toInt (by omega) | rfl) (fun b9 => ?_) (fun b9 => ?_)
      · refine g_iconst (v := nI 0) C d_Row_cell_21 rfl ?_
        exact g_iret C Rr d_Row_cell_22 rfl (by decide) (by decide) ⟨_, rfl, rfl, by rw [cellR_N hj, gd_ge (by omega)]; rfl⟩
      · refine g_aldn C d_Row_cell_12 rfl ?_
        refine g_get C d_Row_cell_13 fl_Row_9 (by assumption) (by rfl) ?_
        refine g_ldn C d_Row_cell_16 rfl ?_
        refine g_iald C d_Row_cell_17 (by assumption) (by omega) (by decide) ?_
        refine g_goto C 22 d_Row_cell_18 (by decide) ?_
        exact g_iret C Rr d_Row_cell_22 rfl (by decide) (by decide) ⟨_, rfl, rfl, by rw [cellR_N hj]; exact hf j (by omega)⟩
set_option maxRecDepth 100000 in
set_option maxHeartbeats 4000000 in
theorem c_Row_write (N : gN) (w : gW) (q : Nat) (L : List Int32) (j : Nat) (x : Int32) (hj : j < 2 ^ 31) (hq : RowV w q L) : CtN N y_Row_write b_Row_write 3 none (rmm 0 0 0 0) [.ref q, .int (nI j), .int x] w (pV (fun w' => Sm w w' q (q + 2) ∧ RowV w' q (L.set j x))) 0 0 := by
  obtain ⟨f, h0, h1, hlen, hf⟩ := hq
  refine ct_intro N [some (.ref q), some (.int (nI j)), some (.int x)] (by decide) rfl (Nat.le_of_ble_eq_true rfl) (by simp [Value.category]) ?_
  intro X hX C Rr
  refine g_ldn C d_Row_write_0 rfl ?_
  refine g_if_lt C 19 d_Row_write_1 (by decide) (by first | exact nI_toInt (by omega) | rfl) (fun b1 => ?_) (fun b1 => ?_)
  · exfalso; omega
  · refine g_ldn C d_Row_write_4 rfl ?_
    refine g_aldn C d_Row_write_5 rfl ?_
    refine g_get C d_Row_write_6 fl_Row_15 (by assumption) (by rfl) ?_
    refine g_icmp_ge C 19 d_Row_write_9 (by decide) (by first | exact nI_toInt (by omega) | rfl) (by first | exact nI_toInt (by omega) | rfl) (fun b9 => ?_) (fun b9 => ?_)
    · exact g_vret C Rr d_Row_write_19 (by decide) (by decide) ⟨rfl, Sm.rf, f, by rw [List.length_set]; exact h0, h1, by rw [List.length_set]; exact hlen, fun i hi => by rw [List.set_eq_of_length_le (by omega)] at hi ⊢; exact hf i hi⟩
    · refine g_aldn C d_Row_write_12 rfl ?_
      refine g_get C d_Row_write_13 fl_Row_9 (by assumption) (by rfl) ?_
      refine g_ldn C d_Row_write_16 rfl ?_
      refine g_ldn C d_Row_write_17 rfl ?_
      refine g_iast C d_Row_write_18 (by assumption) (by omega) (by decide) ?_
      refine g_vret C Rr d_Row_write_19 (by decide) (by decide) ⟨rfl, Sm.set (by omega) (by omega), _, (gset_ne _ _ (by omega)).trans (by rw [List.length_set]; exact h0), gset_self _ _ _, by rw [List.length_set]; exact hlen, fun i hi => ?_⟩
      rw [List.length_set] at hi
      rw [gd_set (by omega)]
      unfold upd
      split
      · rfl
      · exact hf i hi
set_option maxRecDepth 100000 in
set_option maxHeartbeats 4000000 in
theorem c_Row_addLast (N : gN) (w : gW) (q : Nat) (L : List Int32) (x : Int32) (hL : L.length < 80) (hq : RowV w q L) : CtN N y_Row_addLast b_Row_addLast 2 none (rmm 0 0 0 0) [.ref q, .int x] w (pV (fun w' => Sm w w' q (q + 2) ∧ RowV w' q (L ++ [x]))) 0 0 := by
  obtain ⟨f, h0, h1, hlen, hf⟩ := hq
  refine ct_intro N [some (.ref q), some (.int x)] (by decide) rfl (Nat.le_of_ble_eq_true rfl) (by simp [Value.category]) ?_
  intro X hX C Rr
  refine g_aldn C d_Row_addLast_0 rfl ?_
  refine g_get C d_Row_addLast_1 fl_Row_15 (by assumption) (by rfl) ?_
  refine g_aldn C d_Row_addLast_4 rfl ?_
  refine g_get C d_Row_addLast_5 fl_Row_9 (by assumption) (by rfl) ?_
  refine g_alen C d_Row_addLast_8 (by assumption) (by decide) ?_
  refine g_icmp_ge C 32 d_Row_addLast_9 (by decide) (by first | exact nI_toInt (by omega) | rfl) (by first | exact nI_toInt (by omega) | rfl) (fun b9 => ?_) (fun b9 => ?_)
  · exfalso; omega
  · refine g_aldn C d_Row_addLast_12 rfl ?_
    refine g_get C d_Row_addLast_13 fl_Row_9 (by assumption) (by rfl) ?_
    refine g_aldn C d_Row_addLast_16 rfl ?_
    refine g_get C d_Row_addLast_17 fl_Row_15 (by assumption) (by rfl) ?_
    refine g_ldn C d_Row_addLast_20 rfl ?_
    refine g_iast C d_Row_addLast_21 (by assumption) (by omega) (by decide) ?_
    have h2 := (gset_ne w (a := q + 1) (b := q) (.inl (0, 80, .inl (upd f L.length x))) (by omega)).trans h0
    refine g_aldn C d_Row_addLast_22 rfl ?_
    refine g_dup C d_Row_addLast_23 rfl ?_
    refine g_get C d_Row_addLast_24 fl_Row_15 (by assumption) (by rfl) ?_
    refine g_iconst (v := nI 1) C d_Row_addLast_27 rfl ?_
    first | refine g_addN C d_Row_addLast_28 ?_ | refine g_add C d_Row_addLast_28 ?_
    refine g_put C d_Row_addLast_29 fl_Row_15 ft_Row (ty := .int) ⟨_, _, _, rfl, rfl, by decide +kernel⟩ (by assumption) rfl rfl (Nat.le_of_ble_eq_true rfl) rfl ?_
    refine g_vret C Rr d_Row_addLast_32 (by decide) (by decide) ⟨rfl, (Sm.set (by omega) (by omega)).trans (Sm.set (by omega) (by omega)), _, by rw [gset_self, List.length_append]; rfl, (gset_ne _ _ (by omega)).trans (gset_self _ _ _), by simp; omega, fun i hi => ?_⟩
    unfold upd
    by_cases e : i = L.length
    · subst e; rw [if_pos rfl, gd_r (Nat.le_refl _), Nat.sub_self, gd_0]
    · rw [if_neg e, gd_l (by simp at hi; omega)]
      exact hf i (by simp at hi; omega)
