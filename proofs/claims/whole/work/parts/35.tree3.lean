/-! TREE: reading (probes, slots), the constructor. -/
theorem abo {n : Nat} (hn : n < 2 ^ 30) : (if nI n - nI 1 < nI 0 then nI 0 else nI n - nI 1) = nI (n - 1) := by
  cases n with
  | zero => decide
  | succ n =>
    rw [pk_sub (by omega), if_neg (nI_nlt (by omega) (by omega))]
set_option maxRecDepth 100000 in
set_option maxHeartbeats 4000000 in
theorem c_Tree_allButOne (N : gN) (w : gW) (n : Nat) (hn : n < 2 ^ 30) : CtN N y_Tree_allButOne b_Tree_allButOne 1 (some FieldType.int) (rmm 1 21 0 0) [.int (nI n)] w (pI (fun r w' => w' = w ∧ r = nI (n - 1))) 0 0 := by
  refine ct_intro N [some (.int (nI n))] (by decide) rfl (Nat.le_of_ble_eq_true rfl) (by simp [Value.category]) ?_
  intro X hX C Rr
  refine g_ldn C d_Tree_allButOne_0 rfl ?_
  refine g_iconst (v := nI 1) C d_Tree_allButOne_1 rfl ?_
  refine g_sub C d_Tree_allButOne_2 ?_
  refine g_iconst (v := nI 0) C d_Tree_allButOne_3 rfl ?_
  refine g_max (z := nI (n - 1)) C d_Tree_allButOne_4 mw_Tree_68 rfl (by decide) (Nat.le_of_ble_eq_true rfl) (by decide) (by decide) (abo hn) ?_
  exact g_iret C Rr d_Tree_allButOne_7 rfl (by decide) (by decide) ⟨_, rfl, rfl, rfl⟩
theorem trs_p (T : Tr) {k : Nat} (h : 1 ≤ k) : trs T k = (T.2.1 k).map nI := by unfold trs; rw [if_neg (by omega)]
set_option maxRecDepth 100000 in
set_option maxHeartbeats 4000000 in
theorem c_Tree_firstPlaceUnder (N : gN) (w : gW) (t : Nat) (T : Tr) (M : Nat) (l a : Nat) (hl : l ≤ 6) (ha : a < 2 ^ 30) (hw : wfT M T) (hT : TreeV w t (trs T) T.2.2) : CtN N y_Tree_firstPlaceUnder b_Tree_firstPlaceUnder 5 (some FieldType.int) (rmm 1 23 0 0) [.ref t, .int (nI l), .int (nI a)] w (pI (fun r w' => w' = w ∧ r = nI (fpu T.2.1 l a))) 0 0 := by
  refine ct_intro N [some (.ref t), some (.int (nI l)), some (.int (nI a)), none, none] (by decide) rfl (Nat.le_of_ble_eq_true rfl) (by simp [Value.category]) ?_
  intro X hX C Rr
  have loop : ∀ i, i ≤ 6 → ∀ v, v < 2 ^ 30 → fpu T.2.1 i v = fpu T.2.1 l a → V X w 0 0 [some (.ref t), some (.int (nI l)), some (.int (nI a)), some (.int (nI v)), some (.int (nI i))] [] 5 := by
    intro i
    induction i with
    | zero =>
      intro _ v hv e
      refine g_ld C d_Tree_firstPlaceUnder_5 rfl ?_
      refine g_iconst (v := nI 1) C d_Tree_firstPlaceUnder_7 rfl ?_
      refine g_icmp_lt C 29 d_Tree_firstPlaceUnder_8 (by decide) (by first | exact nI_toInt (by omega) | rfl) (by first | exact nI_toInt (by omega) | rfl) (fun b8 => ?_) (fun b8 => ?_)
      · refine g_ldn C d_Tree_firstPlaceUnder_29 rfl ?_
        exact g_iret C Rr d_Tree_firstPlaceUnder_30 rfl (by decide) (by decide) ⟨_, rfl, rfl, by rw [← e]; rfl⟩
      · exfalso; omega
    | succ i ih =>
      intro hi v hv e
      have hr := hT.2.2 (i + 1) (by omega)
      rw [trs_p T (by omega)] at hr
      have hl80 := wf_len hw (i + 1)
      have hps := okR_ps (wf_okR hw (i + 1)) hl80 v
      refine g_ld C d_Tree_firstPlaceUnder_5 rfl ?_
      refine g_iconst (v := nI 1) C d_Tree_firstPlaceUnder_7 rfl ?_
      refine g_icmp_lt C 29 d_Tree_firstPlaceUnder_8 (by decide) (by first | exact nI_toInt (by omega) | rfl) (by first | exact nI_toInt (by omega) | rfl) (fun b8 => ?_) (fun b8 => ?_)
      · exfalso; omega
      · refine g_aldn C d_Tree_firstPlaceUnder_11 rfl ?_
        refine t_rows C d_Tree_firstPlaceUnder_12 fl_Tree_11 (by assumption) ?_
        refine g_ld C d_Tree_firstPlaceUnder_15 rfl ?_
        refine t_aald C d_Tree_firstPlaceUnder_17 (by assumption) (by omega) ?_
        refine g_ldn C d_Tree_firstPlaceUnder_18 rfl ?_
        refine g_callV (ci := kRow) C d_Tree_firstPlaceUnder_19 cw_Tree_83 sl_Row_sumBefore (c_Row_sumBefore X.1 w (t + 2 + 2 * (i + 1)) v (by omega) (T.2.1 (i + 1)) (wf_okR hw (i + 1)) hr) rfl hr.cell (As := [.int (nI v)]) rfl rfl rfl (Nat.le_of_ble_eq_true rfl) ⟨rfl, rfl, by decide, by decide⟩ ⟨by decide, by decide⟩ (kI (fun r w2 h2 => ?_))
        obtain ⟨rfl, rfl⟩ := h2
        refine g_stn C [_, _, _, _, _] d_Tree_firstPlaceUnder_22 (Nat.le_of_ble_eq_true rfl) rfl ?_
        refine g_decN C [_, _, _, _, _] d_Tree_firstPlaceUnder_23 rfl (by omega) rfl ?_
        rw [Nat.add_sub_cancel]
        refine g_goto C 5 d_Tree_firstPlaceUnder_26 (by decide) ?_
        exact ih (by omega) _ (by omega) (by rw [← e]; rfl)
  refine g_ldn C d_Tree_firstPlaceUnder_0 rfl ?_
  refine g_stn C [_, _, _, _, _] d_Tree_firstPlaceUnder_1 (Nat.le_of_ble_eq_true rfl) rfl ?_
  refine g_ldn C d_Tree_firstPlaceUnder_2 rfl ?_
  refine g_st C [_, _, _, _, _] d_Tree_firstPlaceUnder_3 (Nat.le_of_ble_eq_true rfl) rfl ?_
  exact loop l hl a ha rfl
def prb1 (r : Nat → List Nat) (i : Nat) : Nat → Int32
  | 0 => 0
  | l + 1 => prb1 r i l + (nI (cutF r i l - ps (r (l + 1)) (cutF r i (l + 1))) - nI ((i - fpu r (l + 1) (cutF r i (l + 1))) / 4 ^ l))
theorem prb1_eq (r : Nat → List Nat) (i : Nat) : ∀ l, prb1 r i l = prb r i l
  | 0 => rfl
  | 1 => by
    show (0 : Int32) + (nI (i - ps (r 1) (hold (r 1) i)) - nI ((i - ps (r 1) (hold (r 1) i)) / 4 ^ 0)) = 0
    rw [Nat.pow_zero, Nat.div_one]
    simp
  | l + 2 => by
    show prb1 r i (l + 1) + _ = prb r i (l + 1) + _
    rw [prb1_eq r i (l + 1)]
theorem fpu_mono (r : Nat → List Nat) : ∀ l a b, a ≤ b → fpu r l a ≤ fpu r l b
  | 0, _, _, h => h
  | l + 1, _, _, h => fpu_mono r l _ _ (ps_mono _ h)
theorem fpu_le (r : Nat → List Nat) (i : Nat) : ∀ l, fpu r l (cutF r i l) ≤ i
  | 0 => Nat.le_refl _
  | l + 1 => Nat.le_trans (fpu_mono r l _ _ (hold_lo _ _)) (fpu_le r i l)
theorem cutF_le {M : Nat} {T : Tr} (hw : wfT M T) {f : Nat} (hf : f ≤ 80) : ∀ k, cutF T.2.1 f k ≤ 80
  | 0 => hf
  | k + 1 => Nat.le_trans (hold_le _ _) (wf_len hw (k + 1))
set_option maxRecDepth 100000 in
set_option maxHeartbeats 4000000 in
theorem c_Tree_misses (N : gN) (w : gW) (t : Nat) (T : Tr) (a : Nat) (ha : a ≤ 80) (hw : wfT 4 T) (hT : TreeV w t (trs T) T.2.2) : CtN N y_Tree_missesOnTheWayTo b_Tree_missesOnTheWayTo 9 (some FieldType.int) (rmm 2 47 0 0) [.ref t, .int (nI a)] w (pI (fun r w' => w' = w ∧ r = prb T.2.1 a T.2.2)) 0 0 := by
  refine ct_intro N [some (.ref t), some (.int (nI a)), none, none, none, none, none, none, none] (by decide) rfl (Nat.le_of_ble_eq_true rfl) (by simp [Value.category]) ?_
  intro X hX C Rr
  have h4 := hw.2.1
  have loop : ∀ i, i ≤ T.2.2 → V X w 0 0 [some (.ref t), some (.int (nI a)), some (.int (prb1 T.2.1 a i)), some (.int (nI (cutF T.2.1 a i))), some (.int (nI (4 ^ i))), some (.int (nI (i + 1))), none, none, none] [] 10 := by
    refine upto _ (fun i hi ih => ?_)
    have hpw : 4 ^ i ≤ 256 ∧ 0 < 4 ^ i := by
      rcases (show i = 0 ∨ i = 1 ∨ i = 2 ∨ i = 3 ∨ i = 4 by omega) with rfl | rfl | rfl | rfl | rfl <;> decide
    refine g_ld C d_Tree_missesOnTheWayTo_10 rfl ?_
    refine g_aldn C d_Tree_missesOnTheWayTo_12 rfl ?_
    refine t_hei C d_Tree_missesOnTheWayTo_13 fl_Tree_18 (by assumption) ?_
    refine g_icmp_gt C 86 d_Tree_missesOnTheWayTo_16 (by decide) (by first | exact nI_toInt (by omega) | rfl) (by first | exact nI_toInt (by omega) | rfl) (fun b16 => ?_) (fun b16 => ?_)
    · rw [show i = T.2.2 by omega]
      refine g_ldn C d_Tree_missesOnTheWayTo_86 rfl ?_
      exact g_iret C Rr d_Tree_missesOnTheWayTo_87 rfl (by decide) (by decide) ⟨_, rfl, rfl, prb1_eq _ _ _⟩
    · have hr := hT.2.2 (i + 1) (by omega)
      rw [trs_p T (by omega)] at hr
      have hok := wf_okR hw (i + 1)
      have c1 := cutF_le hw ha i
      have c2 := cutF_le hw ha (i + 1)
      have lo : ps (T.2.1 (i + 1)) (cutF T.2.1 a (i + 1)) ≤ cutF T.2.1 a i := hold_lo _ _
      have fl := fpu_le T.2.1 a (i + 1)
      refine g_aldn C d_Tree_missesOnTheWayTo_19 rfl ?_
      refine t_rows C d_Tree_missesOnTheWayTo_20 fl_Tree_11 (by assumption) ?_
      refine g_ld C d_Tree_missesOnTheWayTo_23 rfl ?_
      refine t_aald C d_Tree_missesOnTheWayTo_25 (by assumption) (by omega) ?_
      refine g_ldn C d_Tree_missesOnTheWayTo_26 rfl ?_
      refine g_callV (ci := kRow) C d_Tree_missesOnTheWayTo_27 cw_Tree_53 sl_Row_holderOf (c_Row_holderOf X.1 w (t + 2 + 2 * (i + 1)) (cutF T.2.1 a i) (by omega) (T.2.1 (i + 1)) hok hr) rfl hr.cell (As := [.int (nI (cutF T.2.1 a i))]) rfl rfl rfl (Nat.le_of_ble_eq_true rfl) ⟨rfl, rfl, by decide, by decide⟩ ⟨by decide, by decide⟩ (kI (fun r w2 h2 => ?_))
      obtain ⟨rfl, rfl⟩ := h2
      rw [show hold (T.2.1 (i + 1)) (cutF T.2.1 a i) = cutF T.2.1 a (i + 1) from rfl]
      refine g_st C [_, _, _, _, _, _, _, _, _] d_Tree_missesOnTheWayTo_30 (Nat.le_of_ble_eq_true rfl) rfl ?_
      refine g_ldn C d_Tree_missesOnTheWayTo_32 rfl ?_
      refine g_aldn C d_Tree_missesOnTheWayTo_33 rfl ?_
      refine t_rows C d_Tree_missesOnTheWayTo_34 fl_Tree_11 (by assumption) ?_
      refine g_ld C d_Tree_missesOnTheWayTo_37 rfl ?_
      refine t_aald C d_Tree_missesOnTheWayTo_39 (by assumption) (by omega) ?_
      refine g_ld C d_Tree_missesOnTheWayTo_40 rfl ?_
      refine g_callV (ci := kRow) C d_Tree_missesOnTheWayTo_42 cw_Tree_83 sl_Row_sumBefore (c_Row_sumBefore X.1 w2 (t + 2 + 2 * (i + 1)) (cutF T.2.1 a (i + 1)) (by omega) (T.2.1 (i + 1)) hok hr) rfl hr.cell (As := [.int (nI (cutF T.2.1 a (i + 1)))]) rfl rfl rfl (Nat.le_of_ble_eq_true rfl) ⟨rfl, rfl, by decide, by decide⟩ ⟨by decide, by decide⟩ (kI (fun r w3 h3 => ?_))
      obtain ⟨rfl, rfl⟩ := h3
      first | refine g_subN C d_Tree_missesOnTheWayTo_45 (by omega) ?_ | refine g_sub C d_Tree_missesOnTheWayTo_45 ?_
      refine g_st C [_, _, _, _, _, _, _, _, _] d_Tree_missesOnTheWayTo_46 (Nat.le_of_ble_eq_true rfl) rfl ?_
      refine g_ldn C d_Tree_missesOnTheWayTo_48 rfl ?_
      refine g_aldn C d_Tree_missesOnTheWayTo_49 rfl ?_
      refine g_ld C d_Tree_missesOnTheWayTo_50 rfl ?_
      refine g_ld C d_Tree_missesOnTheWayTo_52 rfl ?_
      refine g_callV (ci := kTree) C d_Tree_missesOnTheWayTo_54 cw_Tree_86 sl_Tree_firstPlaceUnder (c_Tree_firstPlaceUnder X.1 w3 t T 4 (i + 1) (cutF T.2.1 a (i + 1)) (by omega) (by omega) hw hT) rfl hT.1 (As := [.int (nI (i + 1)), .int (nI (cutF T.2.1 a (i + 1)))]) rfl rfl rfl (Nat.le_of_ble_eq_true rfl) ⟨rfl, rfl, by decide, by decide⟩ ⟨by decide, by decide⟩ (kI (fun r w4 h4 => ?_))
      obtain ⟨rfl, rfl⟩ := h4
      first | refine g_subN C d_Tree_missesOnTheWayTo_57 (by omega) ?_ | refine g_sub C d_Tree_missesOnTheWayTo_57 ?_
      refine g_st C [_, _, _, _, _, _, _, _, _] d_Tree_missesOnTheWayTo_58 (Nat.le_of_ble_eq_true rfl) rfl ?_
      refine g_ldn C d_Tree_missesOnTheWayTo_60 rfl ?_
      refine g_ld C d_Tree_missesOnTheWayTo_61 rfl ?_
      refine g_ld C d_Tree_missesOnTheWayTo_63 rfl ?_
      refine g_ld C d_Tree_missesOnTheWayTo_65 rfl ?_
      refine g_divN C d_Tree_missesOnTheWayTo_67 (by omega) hpw.2 (by omega) ?_
      refine g_sub C d_Tree_missesOnTheWayTo_68 ?_
      refine g_add C d_Tree_missesOnTheWayTo_69 ?_
      refine g_stn C [_, _, _, _, _, _, _, _, _] d_Tree_missesOnTheWayTo_70 (Nat.le_of_ble_eq_true rfl) rfl ?_
      refine g_ld C d_Tree_missesOnTheWayTo_71 rfl ?_
      refine g_stn C [_, _, _, _, _, _, _, _, _] d_Tree_missesOnTheWayTo_73 (Nat.le_of_ble_eq_true rfl) rfl ?_
      refine g_ld C d_Tree_missesOnTheWayTo_74 rfl ?_
      refine g_iconst (v := nI 4) C d_Tree_missesOnTheWayTo_76 rfl ?_
      first | refine g_mulN C d_Tree_missesOnTheWayTo_77 ?_ | refine g_mul C d_Tree_missesOnTheWayTo_77 ?_
      rw [← Nat.pow_succ]
      refine g_st C [_, _, _, _, _, _, _, _, _] d_Tree_missesOnTheWayTo_78 (Nat.le_of_ble_eq_true rfl) rfl ?_
      refine g_incN C [_, _, _, _, _, _, _, _, _] d_Tree_missesOnTheWayTo_80 rfl rfl ?_
      refine g_goto C 10 d_Tree_missesOnTheWayTo_83 (by decide) ?_
      refine V.le (lvle.keep (lvle.keep (lvle.keep (lvle.keep (lvle.keep (lvle.keep (lvle.drop (lvle.drop (lvle.drop lvle.nil))))))))) ?_
      exact ih (i + 1) (by omega) (by omega)
  refine g_iconst (v := nI 0) C d_Tree_missesOnTheWayTo_0 rfl ?_
  refine g_stn C [_, _, _, _, _, _, _, _, _] d_Tree_missesOnTheWayTo_1 (Nat.le_of_ble_eq_true rfl) rfl ?_
  refine g_ldn C d_Tree_missesOnTheWayTo_2 rfl ?_
  refine g_stn C [_, _, _, _, _, _, _, _, _] d_Tree_missesOnTheWayTo_3 (Nat.le_of_ble_eq_true rfl) rfl ?_
  refine g_iconst (v := nI 1) C d_Tree_missesOnTheWayTo_4 rfl ?_
  refine g_st C [_, _, _, _, _, _, _, _, _] d_Tree_missesOnTheWayTo_5 (Nat.le_of_ble_eq_true rfl) rfl ?_
  refine g_iconst (v := nI 1) C d_Tree_missesOnTheWayTo_7 rfl ?_
  refine g_st C [_, _, _, _, _, _, _, _, _] d_Tree_missesOnTheWayTo_8 (Nat.le_of_ble_eq_true rfl) rfl ?_
  exact loop 0 (by omega)
def slR (T : Tr) (l k : Int32) : Int32 := if 1 ≤ l.toInt ∧ l.toInt ≤ T.2.2 ∧ 0 ≤ k.toInt ∧ k.toInt < (T.2.1 l.toInt.toNat).length then nI (gd 0 (T.2.1 l.toInt.toNat) k.toInt.toNat) else -1
set_option maxRecDepth 100000 in
set_option maxHeartbeats 4000000 in
theorem c_Tree_slotsOf (N : gN) (w : gW) (t : Nat) (T : Tr) (l k : Int32) (hw : wfT 4 T) (hT : TreeV w t (trs T) T.2.2) : CtN N y_Tree_slotsOf b_Tree_slotsOf 3 (some FieldType.int) (rmm 1 21 0 0) [.ref t, .int l, .int k] w (pI (fun r w' => w' = w ∧ r = slR T l k)) 0 0 := by
  refine ct_intro N [some (.ref t), some (.int l), some (.int k)] (by decide) rfl (Nat.le_of_ble_eq_true rfl) (by simp [Value.category]) ?_
  intro X hX C Rr
  have h4 := hw.2.1
  rcases i32_sgn l with hl | ⟨a, ha, rfl⟩
  · refine g_ldn C d_Tree_slotsOf_0 rfl ?_
    refine g_iconst (v := nI 1) C d_Tree_slotsOf_1 rfl ?_
    refine g_icmp_lt C 30 d_Tree_slotsOf_2 (by decide) (by first | exact nI_toInt (by omega) | rfl) (by first | exact nI_toInt (by omega) | rfl) (fun b2 => ?_) (fun b2 => ?_)
    · refine g_iconst (v := -1) C d_Tree_slotsOf_30 rfl ?_
      exact g_iret C Rr d_Tree_slotsOf_31 rfl (by decide) (by decide) ⟨_, rfl, rfl, by unfold slR; rw [if_neg (by omega)]⟩
    · exfalso; omega
  · have ta := nI_toInt ha
    refine g_ldn C d_Tree_slotsOf_0 rfl ?_
    refine g_iconst (v := nI 1) C d_Tree_slotsOf_1 rfl ?_
    refine g_icmp_lt C 30 d_Tree_slotsOf_2 (by decide) (by first | exact nI_toInt (by omega) | rfl) (by first | exact nI_toInt (by omega) | rfl) (fun b2 => ?_) (fun b2 => ?_)
    · refine g_iconst (v := -1) C d_Tree_slotsOf_30 rfl ?_
      exact g_iret C Rr d_Tree_slotsOf_31 rfl (by decide) (by decide) ⟨_, rfl, rfl, by unfold slR; rw [if_neg (by rw [ta]; omega)]⟩
    · refine g_ldn C d_Tree_slotsOf_5 rfl ?_
      refine g_aldn C d_Tree_slotsOf_6 rfl ?_
      refine t_hei C d_Tree_slotsOf_7 fl_Tree_18 (by assumption) ?_
      refine g_icmp_gt C 30 d_Tree_slotsOf_10 (by decide) (by first | exact nI_toInt (by omega) | rfl) (by first | exact nI_toInt (by omega) | rfl) (fun b10 => ?_) (fun b10 => ?_)
      · refine g_iconst (v := -1) C d_Tree_slotsOf_30 rfl ?_
        exact g_iret C Rr d_Tree_slotsOf_31 rfl (by decide) (by decide) ⟨_, rfl, rfl, by unfold slR; rw [if_neg (by rw [ta]; omega)]⟩
      · rcases i32_sgn k with hk | ⟨b, hb, rfl⟩
        · refine g_ldn C d_Tree_slotsOf_13 rfl ?_
          refine g_if_lt C 30 d_Tree_slotsOf_14 (by decide) (by first | exact nI_toInt (by omega) | rfl) (fun b14 => ?_) (fun b14 => ?_)
          · refine g_iconst (v := -1) C d_Tree_slotsOf_30 rfl ?_
            exact g_iret C Rr d_Tree_slotsOf_31 rfl (by decide) (by decide) ⟨_, rfl, rfl, by unfold slR; rw [if_neg (by omega)]⟩
          · exfalso; omega
        · have tb := nI_toInt hb
          have ea : (nI a).toInt.toNat = a := by rw [ta]; rfl
          have eb : (nI b).toInt.toNat = b := by rw [tb]; rfl
          have hr := hT.2.2 a (by omega)
          rw [trs_p T (by omega)] at hr
          have hl80 := wf_len hw a
          refine g_ldn C d_Tree_slotsOf_13 rfl ?_
          refine g_if_lt C 30 d_Tree_slotsOf_14 (by decide) (by first | exact nI_toInt (by omega) | rfl) (fun b14 => ?_) (fun b14 => ?_)
          · exfalso; omega
          · refine g_ldn C d_Tree_slotsOf_17 rfl ?_
            refine g_aldn C d_Tree_slotsOf_18 rfl ?_
            refine t_rows C d_Tree_slotsOf_19 fl_Tree_11 (by assumption) ?_
            refine g_ldn C d_Tree_slotsOf_22 rfl ?_
            refine t_aald C d_Tree_slotsOf_23 (by assumption) (by omega) ?_
            refine t_cnt C d_Tree_slotsOf_24 fn_Tree_22 (by assumption) (by omega) ?_
            rw [trs_p T (by omega), List.length_map]
            refine g_icmp_lt C 32 d_Tree_slotsOf_27 (by decide) (by first | exact nI_toInt (by omega) | rfl) (by first | exact nI_toInt (by omega) | rfl) (fun b27 => ?_) (fun b27 => ?_)
            · refine g_aldn C d_Tree_slotsOf_32 rfl ?_
              refine t_rows C d_Tree_slotsOf_33 fl_Tree_11 (by assumption) ?_
              refine g_ldn C d_Tree_slotsOf_36 rfl ?_
              refine t_aald C d_Tree_slotsOf_37 (by assumption) (by omega) ?_
              refine g_ldn C d_Tree_slotsOf_38 rfl ?_
              refine g_callV (ci := kRow) C d_Tree_slotsOf_39 cw_Tree_25 sl_Row_cell (c_Row_cell X.1 w (t + 2 + 2 * a) _ (nI b) hr) rfl hr.cell (As := [.int (nI b)]) rfl rfl rfl (Nat.le_of_ble_eq_true rfl) ⟨rfl, rfl, by decide, by decide⟩ ⟨by decide, by decide⟩ (kI (fun r w2 h2 => ?_))
              obtain ⟨rfl, rfl⟩ := h2
              exact g_iret C Rr d_Tree_slotsOf_42 rfl (by decide) (by decide) ⟨_, rfl, rfl, by unfold slR; rw [ea, eb, if_pos (by rw [ta, tb]; omega), cellR_N hb, gdm]⟩
            · refine g_iconst (v := -1) C d_Tree_slotsOf_30 rfl ?_
              exact g_iret C Rr d_Tree_slotsOf_31 rfl (by decide) (by decide) ⟨_, rfl, rfl, by unfold slR; rw [if_neg (by rw [ea, tb]; omega)]⟩
set_option maxRecDepth 100000 in
set_option maxHeartbeats 4000000 in
theorem c_Tree_init (N : gN) (w : gW) (t : Nat) (hsz : w.2 = t + 1) (h0 : w.1 t = some (.inr (kTree, [.null, .int (nI 0)]))) : CtN N y_Tree_init b_Tree_init 2 none (rmm 2 40 15 581) [.ref t] w (pV (fun w' => Sn w w' t 15 ∧ TreeV w' t (fun _ => []) 0)) 15 581 := by
  refine ct_intro N [some (.ref t), none] (by decide) rfl (Nat.le_of_ble_eq_true rfl) (by simp [Value.category]) ?_
  intro X hX C Rr
  refine g_aldn C d_Tree_init_0 rfl ?_
  refine g_objInit C d_Tree_init_1 ow_Tree_3 oi_inst oi_code rfl (by decide) (by decide) ?_
  refine g_aldn C d_Tree_init_4 rfl ?_
  refine g_bipush (v := nI 7) C d_Tree_init_5 (by decide) ?_
  refine g_anew (kd := 3) C d_Tree_init_7 rfl m_54 (by decide +kernel) (by decide) (by decide) (by decide) ?_
  rw [hsz]
  have k0 := (gnew_ne w (b := t) (.inl (3, 7, .inr (.inr (.inr (.inr (fun _ => none)))))) (by omega)).trans h0
  have k1 := gnew_self w (.inl (3, 7, .inr (.inr (.inr (.inr (fun _ => none))))))
  rw [hsz] at k1
  refine g_putF C Rr d_Tree_init_10 fl_Tree_11 ft_Tree (ty := .array (.object "RelaxedRadixVector$Row")) ⟨_, _, _, rfl, rfl, by decide +kernel⟩ ⟨_, _, rfl⟩ k0 rfl rfl (Nat.le_of_ble_eq_true rfl) rfl ?_
  have loop : ∀ i, i ≤ 7 → ∀ (w1 : gW) (g : Nat → Option Nat), w1.2 = t + 2 + 2 * i → (∀ p, p < t → w1.1 p = w.1 p) → w1.1 t = some (.inr (kTree, [.ref (t + 1), .int (nI 0)])) → w1.1 (t + 1) = some (.inl (3, 7, .inr (.inr (.inr (.inr g))))) → (∀ k, k < i → g k = some (t + 2 + 2 * k)) → (∀ k, k < i → RowV w1 (t + 2 + 2 * k) []) → V X w1 (1 + 2 * i) (7 + 82 * i) [some (.ref t), some (.int (nI i))] [] 15 := by
    refine upto _ (fun i hi ih w1 g s1 s2 s3 s4 s5 s6 => ?_)
    refine g_ldn C d_Tree_init_15 rfl ?_
    refine g_aldn C d_Tree_init_16 rfl ?_
    refine g_get C d_Tree_init_17 fl_Tree_11 (by assumption) (by rfl) ?_
    refine g_alen C d_Tree_init_20 (by assumption) (by decide) ?_
    refine g_icmp_ge C 43 d_Tree_init_21 (by decide) (by first | exact nI_toInt (by omega) | rfl) (by first | exact nI_toInt (by omega) | rfl) (fun b21 => ?_) (fun b21 => ?_)
    · have e : i = 7 := by omega
      subst e
      refine g_aldn C d_Tree_init_43 rfl ?_
      refine g_iconst (v := nI 0) C d_Tree_init_44 rfl ?_
      refine g_put C d_Tree_init_45 fl_Tree_18 ft_Tree (ty := .int) ⟨_, _, _, rfl, rfl, by decide +kernel⟩ (by assumption) rfl rfl (Nat.le_of_ble_eq_true rfl) rfl ?_
      have hT1 : TreeV w1 t (fun _ => []) 0 := ⟨s3, ⟨g, s4, s5⟩, s6⟩
      exact g_vret C Rr d_Tree_init_48 (by decide) (by decide) ⟨rfl, ⟨by rw [gset_sz, s1, hsz], fun p hp => (gset_ne _ _ (by omega)).trans (s2 p hp)⟩, hT1.hei (h' := 0)⟩
    · have hi7 : i < 7 := by omega
      refine g_aldn C d_Tree_init_24 rfl ?_
      refine g_get C d_Tree_init_25 fl_Tree_11 (by assumption) (by rfl) ?_
      refine g_ldn C d_Tree_init_28 rfl ?_
      refine g_new (ci := kRow) (fs := [.null, .int (nI 0)]) C tyRow d_Tree_init_29 rfl tyRow_ok uw_Row m_54 m_56 m_6 (fun j hj => by rcases (show j = 0 ∨ j = 1 by omega) with rfl | rfl <;> rfl) (by show 1 + 2 * i + 1 ≤ 15; omega) (by show 7 + 82 * i + 2 ≤ 581; omega) ?_
      rw [s1]
      have q0 := gnew_self w1 (.inr (kRow, [.null, .int (nI 0)]))
      rw [s1] at q0
      refine g_dup C d_Tree_init_32 rfl ?_
      refine g_callI C d_Tree_init_33 cw_Tree_17 si_Row_init (c_Row_init X.1 (gnew w1 (.inr (kRow, [.null, .int (nI 0)]))) (t + 2 + 2 * i) (by rw [gnew_sz, s1]) q0) (As := []) rfl rfl rfl (Nat.le_of_ble_eq_true rfl) ⟨rfl, rfl, by decide, by decide⟩ ⟨by show 1 + 2 * i + 1 + 1 ≤ 15; omega, by show 7 + 82 * i + 2 + 80 ≤ 581; omega⟩ (kV (fun w2 h2 => ?_))
      have old : ∀ p, p < t + 2 + 2 * i → w2.1 p = w1.1 p := fun p hp => (h2.1.2 p hp).trans (gnew_ne _ _ (by omega))
      have s4' := (old (t + 1) (by omega)).trans s4
      refine g_aast3 (ci := kRow) C d_Tree_init_36 s4' h2.2.cell rfl rfl hi7 (by decide) ?_
      refine g_incN C [_, _] d_Tree_init_37 rfl rfl ?_
      refine g_goto C 15 d_Tree_init_40 (by decide) ?_
      refine V.wid (k' := 1 + 2 * (i + 1)) (n' := 7 + 82 * (i + 1)) (by omega) (by omega) ?_
      refine ih (i + 1) (by omega) (by omega) _ _ ?_ (fun p hp => ?_) ?_ (gset_self _ _ _) (fun k hk => ?_) (fun k hk => ?_)
      · rw [gset_sz, h2.1.1, gnew_sz, s1]; omega
      · exact (gset_ne _ _ (by omega)).trans ((old p (by omega)).trans (s2 p hp))
      · exact (gset_ne _ _ (by omega)).trans ((old t (by omega)).trans s3)
      · by_cases e : k = i
        · subst e; rw [va_up_self]
        · rw [va_up_ne _ _ e]; exact s5 k (by omega)
      · by_cases e : k = i
        · subst e; exact h2.2.fr (fun p a b => gset_ne _ _ (by omega))
        · exact (s6 k (by omega)).fr (fun p a b => (gset_ne _ _ (by omega)).trans (old p (by omega)))
  refine g_iconst (v := nI 0) C d_Tree_init_13 rfl ?_
  refine g_stn C [_, _] d_Tree_init_14 (Nat.le_of_ble_eq_true rfl) rfl ?_
  exact loop 0 (by omega) _ _ (by rw [gset_sz, gnew_sz, hsz]) (fun p hp => (gset_ne _ _ (by omega)).trans (gnew_ne _ _ (by omega))) (gset_self _ _ _) ((gset_ne _ _ (by omega)).trans k1) (fun k hk => by omega) (fun k hk => by omega)
