/-! ROW, second half: shifting, ranges, sums. -/
theorem take_snoc {α : Type} (z : α) {L : List α} {k : Nat} (h : k < L.length) : L.take (k + 1) = L.take k ++ [gd z L k] := by
  rw [List.take_add_one, gd_at (z := z) h]; rfl
theorem take_dsnoc {α : Type} (z : α) {M : List α} {a i : Nat} (h1 : a ≤ i) (h2 : i < M.length) : (M.drop a).take (i + 1 - a) = (M.drop a).take (i - a) ++ [gd z M i] := by
  rw [show i + 1 - a = (i - a) + 1 by omega, take_snoc z (by simp; omega), gd_drop, show a + (i - a) = i by omega]
theorem gdm {L : List Nat} {k : Nat} : gd (0 : Int32) (L.map nI) k = nI (gd 0 L k) := by
  rw [← nI_0]; exact gd_map
set_option maxRecDepth 100000 in
set_option maxHeartbeats 4000000 in
theorem c_Row_addFirst (N : gN) (w : gW) (q : Nat) (L : List Int32) (x : Int32) (hL : L.length < 80) (hq : RowV w q L) : CtN N y_Row_addFirst b_Row_addFirst 2 none (rmm 1 38 0 0) [.ref q, .int x] w (pV (fun w' => Sm w w' q (q + 2) ∧ RowV w' q (x :: L))) 0 0 := by
  obtain ⟨f, h0, h1, hlen, hf⟩ := hq
  refine ct_intro N [some (.ref q), some (.int x)] (by decide) rfl (Nat.le_of_ble_eq_true rfl) (by simp [Value.category]) ?_
  intro X hX C Rr
  refine g_aldn C d_Row_addFirst_0 rfl ?_
  refine g_get C d_Row_addFirst_1 fl_Row_15 (by assumption) (by rfl) ?_
  refine g_aldn C d_Row_addFirst_4 rfl ?_
  refine g_get C d_Row_addFirst_5 fl_Row_9 (by assumption) (by rfl) ?_
  refine g_alen C d_Row_addFirst_8 (by assumption) (by decide) ?_
  refine g_icmp_ge C 46 d_Row_addFirst_9 (by decide) (by first | exact nI_toInt (by omega) | rfl) (by first | exact nI_toInt (by omega) | rfl) (fun b9 => ?_) (fun b9 => ?_)
  · exfalso; omega
  · refine g_aldn C d_Row_addFirst_12 rfl ?_
    refine g_get C d_Row_addFirst_13 fl_Row_9 (by assumption) (by rfl) ?_
    refine g_iconst (v := nI 0) C d_Row_addFirst_16 rfl ?_
    refine g_aldn C d_Row_addFirst_17 rfl ?_
    refine g_get C d_Row_addFirst_18 fl_Row_9 (by assumption) (by rfl) ?_
    refine g_iconst (v := nI 1) C d_Row_addFirst_21 rfl ?_
    refine g_aldn C d_Row_addFirst_22 rfl ?_
    refine g_get C d_Row_addFirst_23 fl_Row_15 (by assumption) (by rfl) ?_
    refine g_copyi C d_Row_addFirst_26 aw_Row_19 h1 h1 (by omega) (by omega) (by decide) (by decide) rfl (by decide) (by decide) ?_
    have k0 := (gset_ne w (a := q + 1) (b := q) (.inl (0, 80, .inl (va_cpy f f 0 1 L.length))) (by omega)).trans h0
    have k1 := gset_self w (q + 1) (.inl (0, 80, .inl (va_cpy f f 0 1 L.length)))
    refine g_aldn C d_Row_addFirst_29 rfl ?_
    refine g_get C d_Row_addFirst_30 fl_Row_9 (by assumption) (by rfl) ?_
    refine g_iconst (v := nI 0) C d_Row_addFirst_33 rfl ?_
    refine g_ldn C d_Row_addFirst_34 rfl ?_
    refine g_iast C d_Row_addFirst_35 (by assumption) (by omega) (by decide) ?_
    have k2 := (gset_ne (gset w (q + 1) (.inl (0, 80, .inl (va_cpy f f 0 1 L.length)))) (a := q + 1) (b := q) (.inl (0, 80, .inl (upd (va_cpy f f 0 1 L.length) 0 x))) (by omega)).trans k0
    refine g_aldn C d_Row_addFirst_36 rfl ?_
    refine g_dup C d_Row_addFirst_37 rfl ?_
    refine g_get C d_Row_addFirst_38 fl_Row_15 k2 (by rfl) ?_
    refine g_iconst (v := nI 1) C d_Row_addFirst_41 rfl ?_
    first | refine g_addN C d_Row_addFirst_42 ?_ | refine g_add C d_Row_addFirst_42 ?_
    refine g_put C d_Row_addFirst_43 fl_Row_15 ft_Row (ty := .int) ⟨_, _, _, rfl, rfl, by decide +kernel⟩ k2 rfl rfl (Nat.le_of_ble_eq_true rfl) rfl ?_
    refine g_vret C Rr d_Row_addFirst_46 (by decide) (by decide) ⟨rfl, ((Sm.set (by omega) (by omega)).trans (Sm.set (by omega) (by omega))).trans (Sm.set (by omega) (by omega)), _, by rw [gset_self, List.length_cons]; rfl, (gset_ne _ _ (by omega)).trans (gset_self _ _ _), by simp; omega, fun i hi => ?_⟩
    simp only [List.length_cons] at hi
    cases i with
    | zero => rw [gd_0]; unfold upd; rw [if_pos rfl]
    | succ i =>
      rw [gd_s, ← hf i (by omega)]
      unfold upd va_cpy
      rw [if_neg (by omega), if_pos (by omega)]
      congr 1
      omega
set_option maxRecDepth 100000 in
set_option maxHeartbeats 4000000 in
theorem c_Row_remove (N : gN) (w : gW) (q : Nat) (L : List Int32) (j : Nat) (hj : j < L.length) (hq : RowV w q L) : CtN N y_Row_remove b_Row_remove 2 none (rmm 1 38 0 0) [.ref q, .int (nI j)] w (pV (fun w' => Sm w w' q (q + 2) ∧ RowV w' q (L.eraseIdx j))) 0 0 := by
  obtain ⟨f, h0, h1, hlen, hf⟩ := hq
  refine ct_intro N [some (.ref q), some (.int (nI j))] (by decide) rfl (Nat.le_of_ble_eq_true rfl) (by simp [Value.category]) ?_
  intro X hX C Rr
  refine g_ldn C d_Row_remove_0 rfl ?_
  refine g_if_lt C 45 d_Row_remove_1 (by decide) (by first | exact nI_toInt (by omega) | rfl) (fun b1 => ?_) (fun b1 => ?_)
  · exfalso; omega
  · refine g_ldn C d_Row_remove_4 rfl ?_
    refine g_aldn C d_Row_remove_5 rfl ?_
    refine g_get C d_Row_remove_6 fl_Row_15 (by assumption) (by rfl) ?_
    refine g_icmp_ge C 45 d_Row_remove_9 (by decide) (by first | exact nI_toInt (by omega) | rfl) (by first | exact nI_toInt (by omega) | rfl) (fun b9 => ?_) (fun b9 => ?_)
    · exfalso; omega
    · refine g_aldn C d_Row_remove_12 rfl ?_
      refine g_get C d_Row_remove_13 fl_Row_9 (by assumption) (by rfl) ?_
      refine g_ldn C d_Row_remove_16 rfl ?_
      refine g_iconst (v := nI 1) C d_Row_remove_17 rfl ?_
      first | refine g_addN C d_Row_remove_18 ?_ | refine g_add C d_Row_remove_18 ?_
      refine g_aldn C d_Row_remove_19 rfl ?_
      refine g_get C d_Row_remove_20 fl_Row_9 (by assumption) (by rfl) ?_
      refine g_ldn C d_Row_remove_23 rfl ?_
      refine g_aldn C d_Row_remove_24 rfl ?_
      refine g_get C d_Row_remove_25 fl_Row_15 (by assumption) (by rfl) ?_
      refine g_ldn C d_Row_remove_28 rfl ?_
      first | refine g_subN C d_Row_remove_29 (by omega) ?_ | refine g_sub C d_Row_remove_29 ?_
      refine g_iconst (v := nI 1) C d_Row_remove_30 rfl ?_
      first | refine g_subN C d_Row_remove_31 (by omega) ?_ | refine g_sub C d_Row_remove_31 ?_
      refine g_copyi C d_Row_remove_32 aw_Row_19 h1 h1 (by omega) (by omega) (by decide) (by decide) rfl (by decide) (by decide) ?_
      have k0 := (gset_ne w (a := q + 1) (b := q) (.inl (0, 80, .inl (va_cpy f f (j + 1) j (L.length - j - 1)))) (by omega)).trans h0
      refine g_aldn C d_Row_remove_35 rfl ?_
      refine g_dup C d_Row_remove_36 rfl ?_
      refine g_get C d_Row_remove_37 fl_Row_15 k0 (by rfl) ?_
      refine g_iconst (v := nI 1) C d_Row_remove_40 rfl ?_
      first | refine g_subN C d_Row_remove_41 (by omega) ?_ | refine g_sub C d_Row_remove_41 ?_
      refine g_put C d_Row_remove_42 fl_Row_15 ft_Row (ty := .int) ⟨_, _, _, rfl, rfl, by decide +kernel⟩ k0 rfl rfl (Nat.le_of_ble_eq_true rfl) rfl ?_
      refine g_vret C Rr d_Row_remove_45 (by decide) (by decide) ⟨rfl, (Sm.set (by omega) (by omega)).trans (Sm.set (by omega) (by omega)), _, by rw [gset_self, List.length_eraseIdx_of_lt hj]; rfl, (gset_ne _ _ (by omega)).trans (gset_self _ _ _), by rw [List.length_eraseIdx_of_lt hj]; omega, fun i hi => ?_⟩
      rw [List.length_eraseIdx_of_lt hj] at hi
      rw [gd_erase]
      unfold va_cpy
      by_cases e : i < j
      · rw [if_neg (by omega), if_pos e]; exact hf i (by omega)
      · rw [if_pos (by omega), if_neg e, ← hf (i + 1) (by omega)]
        congr 1
        omega
set_option maxRecDepth 100000 in
set_option maxHeartbeats 4000000 in
theorem c_Row_addRange (N : gN) (w : gW) (q q2 : Nat) (L M : List Int32) (a b : Nat) (ha : a < 2 ^ 31) (hb : b < 2 ^ 31) (hd : q2 + 2 ≤ q ∨ q + 2 ≤ q2) (hfit : L.length + (min b M.length - a) ≤ 80) (hq : RowV w q L) (hq2 : RowV w q2 M) : CtN N y_Row_addRange b_Row_addRange 5 none (rmm 1 21 0 0) [.ref q, .ref q2, .int (nI a), .int (nI b)] w (pV (fun w' => Sm w w' q (q + 2) ∧ RowV w' q (L ++ (M.drop a).take (b - a)))) 0 0 := by
  refine ct_intro N [some (.ref q), some (.ref q2), some (.int (nI a)), some (.int (nI b)), none] (by decide) rfl (Nat.le_of_ble_eq_true rfl) (by simp [Value.category]) ?_
  intro X hX C Rr
  refine g_ldn C d_Row_addRange_0 rfl ?_
  refine g_iconst (v := nI 0) C d_Row_addRange_1 rfl ?_
  refine g_max (z := nI a) C d_Row_addRange_2 mw_Row_25 rfl (by decide) (Nat.le_of_ble_eq_true rfl) (by decide) (by decide) (if_neg (nI_nlt (by omega) ha)) ?_
  refine g_st C [_, _, _, _, _] d_Row_addRange_5 (Nat.le_of_ble_eq_true rfl) rfl ?_
  have loop : ∀ i, i ≤ max a (min b M.length) → ∀ w1, a ≤ i → Sm w w1 q (q + 2) → RowV w1 q (L ++ (M.drop a).take (i - a)) → V X w1 0 0 [some (.ref q), some (.ref q2), some (.int (nI a)), some (.int (nI b)), some (.int (nI i))] [] 7 := by
    refine upto _ (fun i hi ih w1 hai hS hR => ?_)
    have hM := hq2.sm hS hd
    obtain ⟨g, m0, m1, mlen, mf⟩ := hM
    refine g_ld C d_Row_addRange_7 rfl ?_
    refine g_ldn C d_Row_addRange_9 rfl ?_
    refine g_icmp_ge C 39 d_Row_addRange_10 (by decide) (by first | exact nI_toInt (by omega) | rfl) (by first | exact nI_toInt (by omega) | rfl) (fun b10 => ?_) (fun b10 => ?_)
    · have e : i - a = b - a := by omega
      rw [e] at hR
      exact g_vret C Rr d_Row_addRange_39 (by decide) (by decide) ⟨rfl, hS, hR⟩
    · refine g_ld C d_Row_addRange_13 rfl ?_
      refine g_aldn C d_Row_addRange_15 rfl ?_
      refine g_get C d_Row_addRange_16 fl_Row_15 (by assumption) (by rfl) ?_
      refine g_icmp_ge C 39 d_Row_addRange_19 (by decide) (by first | exact nI_toInt (by omega) | rfl) (by first | exact nI_toInt (by omega) | rfl) (fun b19 => ?_) (fun b19 => ?_)
      · rw [List.take_of_length_le (by simp; omega)] at hR
        have hR2 : RowV w1 q (L ++ (M.drop a).take (b - a)) := by rw [List.take_of_length_le (by simp; omega)]; exact hR
        exact g_vret C Rr d_Row_addRange_39 (by decide) (by decide) ⟨rfl, hS, hR2⟩
      · refine g_aldn C d_Row_addRange_22 rfl ?_
        refine g_aldn C d_Row_addRange_23 rfl ?_
        refine g_get C d_Row_addRange_24 fl_Row_9 (by assumption) (by rfl) ?_
        refine g_ld C d_Row_addRange_27 rfl ?_
        refine g_iald C d_Row_addRange_29 (by assumption) (by omega) (by decide) ?_
        have hx : g i = gd 0 M i := mf i (by omega)
        have hlen1 : (L ++ (M.drop a).take (i - a)).length < 80 := by simp; omega
        obtain ⟨f9, z0, z1, z2, z3⟩ := id hR
        refine g_callV (ci := kRow) C d_Row_addRange_30 cw_Row_31 sl_Row_addLast (c_Row_addLast X.1 w1 q _ (g i) hlen1 hR) rfl z0 (As := [.int (g i)]) rfl rfl rfl (Nat.le_of_ble_eq_true rfl) ⟨rfl, rfl, by decide, by decide⟩ ⟨by decide, by decide⟩ (kV (fun w2 h2 => ?_))
        refine g_incN C [_, _, _, _, _] d_Row_addRange_33 rfl rfl ?_
        refine g_goto C 7 d_Row_addRange_36 (by decide) ?_
        refine ih (i + 1) (by omega) (by omega) w2 (by omega) (hS.trans h2.1) ?_
        rw [take_dsnoc 0 hai (by omega), ← hx, ← List.append_assoc]
        exact h2.2
  exact loop a (by omega) w (Nat.le_refl _) Sm.rf (by simpa using hq)
theorem okR_ps {Q : List Nat} (h : okR Q) (hl : Q.length ≤ 80) (k : Nat) : ps Q k ≤ 320 := by
  have h1 : ∀ m, ps Q m ≤ 4 * m := by
    intro m
    induction m with
    | zero => rw [ps_0]; omega
    | succ m ih =>
      rw [ps_s]
      by_cases hm : m < Q.length
      · have := (okR_gd h hm).2; omega
      · rw [gd_ge (by omega)]; omega
  by_cases hk : k ≤ 80
  · have := h1 k; omega
  · rw [ps_len (by omega), ← ps_len (L := Q) (k := 80) hl]; have := h1 80; omega
set_option maxRecDepth 100000 in
set_option maxHeartbeats 4000000 in
theorem c_Row_sumBefore (N : gN) (w : gW) (q b : Nat) (hb : b < 2 ^ 31) (Q : List Nat) (hQ : okR Q) (hq : RowV w q (Q.map nI)) : CtN N y_Row_sumBefore b_Row_sumBefore 4 (some FieldType.int) (rmm 0 0 0 0) [.ref q, .int (nI b)] w (pI (fun r w' => w' = w ∧ r = nI (ps Q b))) 0 0 := by
  obtain ⟨f, h0, h1, hlen, hf⟩ := hq
  rw [List.length_map] at hlen h0
  have hf : ∀ i, i < Q.length → f i = nI (gd 0 Q i) := fun i hi => by rw [hf i (by rw [List.length_map]; exact hi), gdm]
  refine ct_intro N [some (.ref q), some (.int (nI b)), none, none] (by decide) rfl (Nat.le_of_ble_eq_true rfl) (by simp [Value.category]) ?_
  intro X hX C Rr
  refine g_iconst (v := nI 0) C d_Row_sumBefore_0 rfl ?_
  refine g_stn C [_, _, _, _] d_Row_sumBefore_1 (Nat.le_of_ble_eq_true rfl) rfl ?_
  refine g_iconst (v := nI 0) C d_Row_sumBefore_2 rfl ?_
  refine g_stn C [_, _, _, _] d_Row_sumBefore_3 (Nat.le_of_ble_eq_true rfl) rfl ?_
  have loop : ∀ i, i ≤ min b Q.length → V X w 0 0 [some (.ref q), some (.int (nI b)), some (.int (nI (ps Q i))), some (.int (nI i))] [] 4 := by
    refine upto _ (fun i hi ih => ?_)
    have hp := okR_ps hQ hlen i
    have hp1 := okR_ps hQ hlen (i + 1)
    refine g_ldn C d_Row_sumBefore_4 rfl ?_
    refine g_ldn C d_Row_sumBefore_5 rfl ?_
    refine g_icmp_ge C 32 d_Row_sumBefore_6 (by decide) (by first | exact nI_toInt (by omega) | rfl) (by first | exact nI_toInt (by omega) | rfl) (fun b6 => ?_) (fun b6 => ?_)
    · refine g_ldn C d_Row_sumBefore_32 rfl ?_
      exact g_iret C Rr d_Row_sumBefore_33 rfl (by decide) (by decide) ⟨_, rfl, rfl, by rw [show i = b by omega]⟩
    · refine g_ldn C d_Row_sumBefore_9 rfl ?_
      refine g_aldn C d_Row_sumBefore_10 rfl ?_
      refine g_get C d_Row_sumBefore_11 fl_Row_15 (by assumption) (by rfl) ?_
      refine g_icmp_ge C 32 d_Row_sumBefore_14 (by decide) (by first | exact nI_toInt (by omega) | rfl) (by first | exact nI_toInt (by omega) | rfl) (fun b14 => ?_) (fun b14 => ?_)
      · refine g_ldn C d_Row_sumBefore_32 rfl ?_
        exact g_iret C Rr d_Row_sumBefore_33 rfl (by decide) (by decide) ⟨_, rfl, rfl, by rw [ps_len (by omega), ps_len (by omega)]⟩
      · refine g_ldn C d_Row_sumBefore_17 rfl ?_
        refine g_aldn C d_Row_sumBefore_18 rfl ?_
        refine g_get C d_Row_sumBefore_19 fl_Row_9 (by assumption) (by rfl) ?_
        refine g_ldn C d_Row_sumBefore_22 rfl ?_
        refine g_iald C d_Row_sumBefore_23 (by assumption) (by omega) (by decide) ?_
        rw [hf i (by omega)]
        first | refine g_addN C d_Row_sumBefore_24 ?_ | refine g_add C d_Row_sumBefore_24 ?_
        rw [← ps_s]
        refine g_stn C [_, _, _, _] d_Row_sumBefore_25 (Nat.le_of_ble_eq_true rfl) rfl ?_
        refine g_incN C [_, _, _, _] d_Row_sumBefore_26 rfl rfl ?_
        refine g_goto C 4 d_Row_sumBefore_29 (by decide) ?_
        exact ih (i + 1) (by omega) (by omega)
  exact loop 0 (by omega)
set_option maxRecDepth 100000 in
set_option maxHeartbeats 4000000 in
theorem c_Row_holderOf (N : gN) (w : gW) (q b : Nat) (hb : b < 2 ^ 31) (Q : List Nat) (hQ : okR Q) (hq : RowV w q (Q.map nI)) : CtN N y_Row_holderOf b_Row_holderOf 4 (some FieldType.int) (rmm 0 0 0 0) [.ref q, .int (nI b)] w (pI (fun r w' => w' = w ∧ r = nI (hold Q b))) 0 0 := by
  obtain ⟨f, h0, h1, hlen, hf⟩ := hq
  rw [List.length_map] at hlen h0
  have hf : ∀ i, i < Q.length → f i = nI (gd 0 Q i) := fun i hi => by rw [hf i (by rw [List.length_map]; exact hi), gdm]
  refine ct_intro N [some (.ref q), some (.int (nI b)), none, none] (by decide) rfl (Nat.le_of_ble_eq_true rfl) (by simp [Value.category]) ?_
  intro X hX C Rr
  refine g_iconst (v := nI 0) C d_Row_holderOf_0 rfl ?_
  refine g_stn C [_, _, _, _] d_Row_holderOf_1 (Nat.le_of_ble_eq_true rfl) rfl ?_
  refine g_iconst (v := nI 0) C d_Row_holderOf_2 rfl ?_
  refine g_stn C [_, _, _, _] d_Row_holderOf_3 (Nat.le_of_ble_eq_true rfl) rfl ?_
  have loop : ∀ i, i ≤ Q.length → (∀ j, j < i → ps Q (j + 1) ≤ b) → V X w 0 0 [some (.ref q), some (.int (nI b)), some (.int (nI (ps Q i))), some (.int (nI i))] [] 4 := by
    refine upto _ (fun i hi ih hlo => ?_)
    have hp := okR_ps hQ hlen i
    have hp1 := okR_ps hQ hlen (i + 1)
    refine g_ldn C d_Row_holderOf_4 rfl ?_
    refine g_aldn C d_Row_holderOf_5 rfl ?_
    refine g_get C d_Row_holderOf_6 fl_Row_15 (by assumption) (by rfl) ?_
    refine g_icmp_ge C 34 d_Row_holderOf_9 (by decide) (by first | exact nI_toInt (by omega) | rfl) (by first | exact nI_toInt (by omega) | rfl) (fun b9 => ?_) (fun b9 => ?_)
    · have e : hold Q b = Q.length := hold_eq Q b Q.length (fun j hj => hlo j (by omega)) (fun z => by omega) (Nat.le_refl _)
      refine g_aldn C d_Row_holderOf_34 rfl ?_
      refine g_get C d_Row_holderOf_35 fl_Row_15 (by assumption) (by rfl) ?_
      exact g_iret C Rr d_Row_holderOf_38 rfl (by decide) (by decide) ⟨_, rfl, rfl, by rw [e]⟩
    · refine g_ldn C d_Row_holderOf_12 rfl ?_
      refine g_aldn C d_Row_holderOf_13 rfl ?_
      refine g_get C d_Row_holderOf_14 fl_Row_9 (by assumption) (by rfl) ?_
      refine g_ldn C d_Row_holderOf_17 rfl ?_
      refine g_iald C d_Row_holderOf_18 (by assumption) (by omega) (by decide) ?_
      rw [hf i (by omega)]
      first | refine g_addN C d_Row_holderOf_19 ?_ | refine g_add C d_Row_holderOf_19 ?_
      rw [← ps_s]
      refine g_stn C [_, _, _, _] d_Row_holderOf_20 (Nat.le_of_ble_eq_true rfl) rfl ?_
      refine g_ldn C d_Row_holderOf_21 rfl ?_
      refine g_ldn C d_Row_holderOf_22 rfl ?_
      refine g_icmp_ge C 28 d_Row_holderOf_23 (by decide) (by first | exact nI_toInt (by omega) | rfl) (by first | exact nI_toInt (by omega) | rfl) (fun b23 => ?_) (fun b23 => ?_)
      · refine g_incN C [_, _, _, _] d_Row_holderOf_28 rfl rfl ?_
        refine g_goto C 4 d_Row_holderOf_31 (by decide) ?_
        refine ih (i + 1) (by omega) (by omega) (fun j hj => ?_)
        by_cases e : j = i
        · subst e; omega
        · exact hlo j (by omega)
      · have e : hold Q b = i := hold_eq Q b i hlo (fun _ => by omega) hi
        refine g_ldn C d_Row_holderOf_26 rfl ?_
        exact g_iret C Rr d_Row_holderOf_27 rfl (by decide) (by decide) ⟨_, rfl, rfl, by rw [e]⟩
  exact loop 0 (by omega) (fun j hj => by omega)
