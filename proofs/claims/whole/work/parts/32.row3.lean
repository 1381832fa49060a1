/-! ROW, third part: clipping, packing, the constructor. -/
theorem nI_min {x y : Nat} (hx : x < 2 ^ 31) (hy : y < 2 ^ 31) : (if nI y < nI x then nI y else nI x) = nI (min x y) := by
  by_cases h : y < x
  · rw [if_pos (nI_lt h hx), Nat.min_eq_right (by omega)]
  · rw [if_neg (nI_nlt (by omega) hy), Nat.min_eq_left (by omega)]
theorem nI_max {x y : Nat} (hx : x < 2 ^ 31) (hy : y < 2 ^ 31) : (if nI x < nI y then nI y else nI x) = nI (max x y) := by
  by_cases h : x < y
  · rw [if_pos (nI_lt h hy), Nat.max_eq_right (by omega)]
  · rw [if_neg (nI_nlt (by omega) hx), Nat.max_eq_left (by omega)]
theorem map_erase {α β : Type} (f : α → β) (L : List α) (k : Nat) : (L.map f).eraseIdx k = (L.eraseIdx k).map f := by
  induction L generalizing k with
  | nil => rfl
  | cons x L ih =>
    cases k with
    | zero => rfl
    | succ k => simp [ih]
theorem pos_len (l : List Nat) : (pos l).length ≤ l.length := List.length_filter_le _ _
set_option maxRecDepth 100000 in
set_option maxHeartbeats 4000000 in
theorem c_Row_addClipped (N : gN) (w : gW) (q q2 : Nat) (Q : List Nat) (hQ : okR Q) (a b : Nat) (ha : a < 2 ^ 29) (hb : b < 2 ^ 29) (hd : q2 + 2 ≤ q ∨ q + 2 ≤ q2) (hq : RowV w q []) (hq2 : RowV w q2 (Q.map nI)) : CtN N y_Row_addClipped b_Row_addClipped 8 none (rmm 1 21 0 0) [.ref q, .ref q2, .int (nI a), .int (nI b)] w (pV (fun w' => Sm w w' q (q + 2) ∧ RowV w' q ((clip Q a b).map nI))) 0 0 := by
  refine ct_intro N [some (.ref q), some (.ref q2), some (.int (nI a)), some (.int (nI b)), none, none, none, none] (by decide) rfl (Nat.le_of_ble_eq_true rfl) (by simp [Value.category]) ?_
  intro X hX C Rr
  refine g_iconst (v := nI 0) C d_Row_addClipped_0 rfl ?_
  refine g_st C [_, _, _, _, _, _, _, _] d_Row_addClipped_1 (Nat.le_of_ble_eq_true rfl) rfl ?_
  refine g_iconst (v := nI 0) C d_Row_addClipped_3 rfl ?_
  refine g_st C [_, _, _, _, _, _, _, _] d_Row_addClipped_4 (Nat.le_of_ble_eq_true rfl) rfl ?_
  have loop : ∀ i, i ≤ Q.length → ∀ w1, Sm w w1 q (q + 2) → RowV w1 q ((pos ((ovs a b 0 Q).take i)).map nI) → V X w1 0 0 [some (.ref q), some (.ref q2), some (.int (nI a)), some (.int (nI b)), some (.int (nI (ps Q i))), some (.int (nI i)), none, none] [] 6 := by
    refine upto _ (fun i hi ih w1 hS hR => ?_)
    have hM := hq2.sm hS hd
    obtain ⟨g, m0, m1, mlen, mf⟩ := hM
    rw [List.length_map] at mlen m0
    have mf : ∀ i, i < Q.length → g i = nI (gd 0 Q i) := fun i hi => by rw [mf i (by rw [List.length_map]; exact hi), gdm]
    have hp := okR_ps hQ mlen i
    have hp1 := okR_ps hQ mlen (i + 1)
    have hol := ovs_len a b 0 Q
    refine g_ld C d_Row_addClipped_6 rfl ?_
    refine g_aldn C d_Row_addClipped_8 rfl ?_
    refine g_get C d_Row_addClipped_9 fl_Row_15 (by assumption) (by rfl) ?_
    refine g_icmp_ge C 63 d_Row_addClipped_12 (by decide) (by first | exact nI_toInt (by omega) | rfl) (by first | exact nI_toInt (by omega) | rfl) (fun b12 => ?_) (fun b12 => ?_)
    · rw [List.take_of_length_le (by omega)] at hR
      exact g_vret C Rr d_Row_addClipped_63 (by decide) (by decide) ⟨rfl, hS, hR⟩
    · have hi2 : i < Q.length := by omega
      have ho := ovs_gd a b 0 Q i hi2
      rw [Nat.zero_add, Nat.zero_add] at ho
      have ht := pos_take (ovs a b 0 Q) i (by omega)
      refine g_ld C d_Row_addClipped_15 rfl ?_
      refine g_aldn C d_Row_addClipped_17 rfl ?_
      refine g_get C d_Row_addClipped_18 fl_Row_9 (by assumption) (by rfl) ?_
      refine g_ld C d_Row_addClipped_21 rfl ?_
      refine g_iald C d_Row_addClipped_23 (by assumption) (by omega) (by decide) ?_
      rw [mf i hi2]
      first | refine g_addN C d_Row_addClipped_24 ?_ | refine g_add C d_Row_addClipped_24 ?_
      rw [← ps_s]
      refine g_st C [_, _, _, _, _, _, _, _] d_Row_addClipped_25 (Nat.le_of_ble_eq_true rfl) rfl ?_
      refine g_ld C d_Row_addClipped_27 rfl ?_
      refine g_ldn C d_Row_addClipped_29 rfl ?_
      refine g_min (z := nI (min (ps Q (i + 1)) b)) C d_Row_addClipped_30 mw_Row_35 rfl (by decide) (Nat.le_of_ble_eq_true rfl) (by decide) (by decide) (nI_min (by omega) (by omega)) ?_
      refine g_ld C d_Row_addClipped_33 rfl ?_
      refine g_ldn C d_Row_addClipped_35 rfl ?_
      refine g_max (z := nI (max (ps Q i) a)) C d_Row_addClipped_36 mw_Row_25 rfl (by decide) (Nat.le_of_ble_eq_true rfl) (by decide) (by decide) (nI_max (by omega) (by omega)) ?_
      refine g_sub C d_Row_addClipped_39 ?_
      refine g_st C [_, _, _, _, _, _, _, _] d_Row_addClipped_40 (Nat.le_of_ble_eq_true rfl) rfl ?_
      refine g_ld C d_Row_addClipped_42 rfl ?_
      refine g_if_le C 53 d_Row_addClipped_44 (by decide) (pk_sub_toInt (by omega) (by omega)) (fun b44 => ?_) (fun b44 => ?_)
      · refine g_ld C d_Row_addClipped_53 rfl ?_
        refine g_st C [_, _, _, _, _, _, _, _] d_Row_addClipped_55 (Nat.le_of_ble_eq_true rfl) rfl ?_
        refine g_incN C [_, _, _, _, _, _, _, _] d_Row_addClipped_57 rfl rfl ?_
        refine g_goto C 6 d_Row_addClipped_60 (by decide) ?_
        refine V.le (lvle.keep (lvle.keep (lvle.keep (lvle.keep (lvle.keep (lvle.keep (lvle.drop (lvle.drop lvle.nil)))))))) ?_
        refine ih (i + 1) (by omega) (by omega) w1 hS ?_
        rw [ht, if_neg (by omega), List.append_nil]
        exact hR
      · rw [pk_sub (by omega), ← ho]
        have hlen1 : ((pos ((ovs a b 0 Q).take i)).map nI).length < 80 := by
          have := pos_len ((ovs a b 0 Q).take i)
          rw [List.length_map]
          simp only [List.length_take] at this
          omega
        obtain ⟨f9, z0, z1, z2, z3⟩ := id hR
        refine g_aldn C d_Row_addClipped_47 rfl ?_
        refine g_ld C d_Row_addClipped_48 rfl ?_
        refine g_callV (ci := kRow) C d_Row_addClipped_50 cw_Row_31 sl_Row_addLast (c_Row_addLast X.1 w1 q _ (nI (gd 0 (ovs a b 0 Q) i)) hlen1 hR) rfl z0 (As := [.int (nI (gd 0 (ovs a b 0 Q) i))]) rfl rfl rfl (Nat.le_of_ble_eq_true rfl) ⟨rfl, rfl, by decide, by decide⟩ ⟨by decide, by decide⟩ (kV (fun w2 h2 => ?_))
        refine g_ld C d_Row_addClipped_53 rfl ?_
        refine g_st C [_, _, _, _, _, _, _, _] d_Row_addClipped_55 (Nat.le_of_ble_eq_true rfl) rfl ?_
        refine g_incN C [_, _, _, _, _, _, _, _] d_Row_addClipped_57 rfl rfl ?_
        refine g_goto C 6 d_Row_addClipped_60 (by decide) ?_
        refine V.le (lvle.keep (lvle.keep (lvle.keep (lvle.keep (lvle.keep (lvle.keep (lvle.drop (lvle.drop lvle.nil)))))))) ?_
        refine ih (i + 1) (by omega) (by omega) w2 (hS.trans h2.1) ?_
        rw [ht, if_pos (by omega), List.map_append]
        exact h2.2
  exact loop 0 (by omega) w Sm.rf (by simpa [pos] using hq)
set_option maxRecDepth 100000 in
set_option maxHeartbeats 4000000 in
theorem c_Row_saveOneNode (N : gN) (w : gW) (q s n : Nat) (Q : List Nat) (hQ : okR Q) (hs : s + n ≤ Q.length) (hn : (ps Q (s + n) - ps Q s + 3) / 4 + 1 < n) (hq : RowV w q (Q.map nI)) : CtN N y_Row_saveOneNode b_Row_saveOneNode 8 none (rmm 2 59 0 0) [.ref q, .int (nI s), .int (nI (s + n))] w (pV (fun w' => Sm w w' q (q + 2) ∧ RowV w' q ((pk1 Q s).map nI))) 0 0 := by
  refine ct_intro N [some (.ref q), some (.int (nI s)), some (.int (nI (s + n))), none, none, none, none, none] (by decide) rfl (Nat.le_of_ble_eq_true rfl) (by simp [Value.category]) ?_
  intro X hX C Rr
  obtain ⟨i0, j0, hij⟩ := pk_find hQ hs rfl hn
  have hv := pkAt_val hQ hij hs
  have hij' := hij
  obtain ⟨a1, a2, a3, a4, a5, a6, a7⟩ := hij'
  have hl80 := hq.len
  rw [List.length_map] at hl80
  have hps := okR_ps hQ hl80
  have hcell : ∀ i, i < 2 ^ 31 → cellR (Q.map nI) (nI i) = nI (gd 0 Q i) := fun i hi => by rw [cellR_N hi, gdm]
  have hgd : ∀ i, gd 0 Q i ≤ 4 := fun i => by
    by_cases e : i < Q.length
    · exact (okR_gd hQ e).2
    · rw [gd_ge (by omega)]; omega
  obtain ⟨f9, z0, z1, z2, z3⟩ := id hq
  have loop3 : ∀ k, k ≤ j0 → ∀ (w3 : gW) (M : List Nat) (sl : Int32), i0 ≤ k → Sm w w3 q (q + 2) → RowV w3 q (M.map nI) → M.length + 1 = Q.length → (k < j0 → sl = nI (ps Q (j0 + 1) - ps Q i0 - 4 * (k - i0))) → (∀ p, p < M.length → gd 0 M p = if i0 ≤ p ∧ p < k then (if p + 1 < j0 then 4 else ps Q (j0 + 1) - ps Q i0 - 4 * (j0 - 1 - i0)) else gd 0 (Q.eraseIdx j0) p) → V X w3 0 0 [some (.ref q), some (.int (nI s)), some (.int (nI (s + n))), some (.int (nI i0)), some (.int (nI j0)), some (.int (sl)), some (.int (nI k)), none] [] 88 := by
    refine upto _ (fun k hk ih w3 M sl hik hS hR hl hsl hM => ?_)
    have hpj := hps (j0 + 1)
    obtain ⟨f8, y0, y1, y2, y3⟩ := id hR
    refine g_ld C d_Row_saveOneNode_88 rfl ?_
    refine g_ld C d_Row_saveOneNode_90 rfl ?_
    refine g_icmp_ge C 133 d_Row_saveOneNode_92 (by decide) (by first | exact nI_toInt (by omega) | rfl) (by first | exact nI_toInt (by omega) | rfl) (fun b92 => ?_) (fun b92 => ?_)
    · have e : M = pk1 Q s := by
        refine pk1_is hij hs hl (fun p hp => ?_)
        rw [hM p hp, gd_erase]
        unfold pkG
        by_cases c1 : p < i0
        · rw [if_neg (by omega), if_pos (by omega), if_pos c1]
        · rw [if_neg c1]
          by_cases c2 : p + 1 < j0
          · rw [if_pos (by omega), if_pos c2, if_pos c2]
          · by_cases c3 : p + 1 = j0
            · rw [if_pos (by omega), if_neg c2, if_neg c2, if_pos c3]
            · rw [if_neg (by omega), if_neg (by omega), if_neg c2, if_neg c3]
      rw [e] at hR
      exact g_vret C Rr d_Row_saveOneNode_133 (by decide) (by decide) ⟨rfl, hS, hR⟩
    · have hkj : k < j0 := by omega
      have e1 := hsl hkj
      subst e1
      have K3 : ∀ tk : Nat, tk = (if k + 1 < j0 then 4 else ps Q (j0 + 1) - ps Q i0 - 4 * (k - i0)) → V X w3 0 0 [some (.ref q), some (.int (nI s)), some (.int (nI (s + n))), some (.int (nI i0)), some (.int (nI j0)), some (.int (nI (ps Q (j0 + 1) - ps Q i0 - 4 * (k - i0)))), some (.int (nI k)), none] [.int (nI tk)] 110 := by
        intro tk htk
        have htk2 : tk ≤ ps Q (j0 + 1) - ps Q i0 - 4 * (k - i0) := by rw [htk]; split <;> omega
        refine g_st C [_, _, _, _, _, _, _, _] d_Row_saveOneNode_110 (Nat.le_of_ble_eq_true rfl) rfl ?_
        refine g_aldn C d_Row_saveOneNode_112 rfl ?_
        refine g_ld C d_Row_saveOneNode_113 rfl ?_
        refine g_ld C d_Row_saveOneNode_115 rfl ?_
        refine g_callV (ci := kRow) C d_Row_saveOneNode_117 cw_Row_52 sl_Row_write (c_Row_write X.1 w3 q _ k (nI tk) (by omega) hR) rfl y0 (As := [.int (nI k), .int (nI tk)]) rfl rfl rfl (Nat.le_of_ble_eq_true rfl) ⟨rfl, rfl, by decide, by decide⟩ ⟨by decide, by decide⟩ (kV (fun w4 h4 => ?_))
        refine g_ld C d_Row_saveOneNode_120 rfl ?_
        refine g_ld C d_Row_saveOneNode_122 rfl ?_
        first | refine g_subN C d_Row_saveOneNode_124 (by omega) ?_ | refine g_sub C d_Row_saveOneNode_124 ?_
        refine g_st C [_, _, _, _, _, _, _, _] d_Row_saveOneNode_125 (Nat.le_of_ble_eq_true rfl) rfl ?_
        refine g_incN C [_, _, _, _, _, _, _, _] d_Row_saveOneNode_127 rfl rfl ?_
        refine g_goto C 88 d_Row_saveOneNode_130 (by decide) ?_
        refine V.le (lvle.keep (lvle.keep (lvle.keep (lvle.keep (lvle.keep (lvle.keep (lvle.keep (lvle.drop lvle.nil)))))))) ?_
        have h5 := h4.2
        rw [← List.map_set] at h5
        refine ih (k + 1) (by omega) (by omega) w4 (M.set k tk) _ (by omega) (hS.trans h4.1) h5 (by rw [List.length_set]; exact hl) (fun hk1 => ?_) (fun p hp => ?_)
        · rw [htk, if_pos hk1]; congr 1; omega
        · rw [List.length_set] at hp
          rw [gd_set (by omega)]
          by_cases c : p = k
          · subst c
            rw [if_pos rfl, if_pos (by omega), htk]
            split
            · rfl
            · rw [show j0 - 1 - i0 = p - i0 by omega]
          · rw [if_neg c, hM p hp]
            by_cases c2 : i0 ≤ p ∧ p < k
            · rw [if_pos c2, if_pos (show i0 ≤ p ∧ p < k + 1 by omega)]
            · rw [if_neg c2, if_neg (show ¬ (i0 ≤ p ∧ p < k + 1) by omega)]
      refine g_ld C d_Row_saveOneNode_95 rfl ?_
      refine g_ld C d_Row_saveOneNode_97 rfl ?_
      refine g_iconst (v := nI 1) C d_Row_saveOneNode_99 rfl ?_
      first | refine g_subN C d_Row_saveOneNode_100 (by omega) ?_ | refine g_sub C d_Row_saveOneNode_100 ?_
      refine g_icmp_ge C 108 d_Row_saveOneNode_101 (by decide) (by first | exact nI_toInt (by omega) | rfl) (by first | exact nI_toInt (by omega) | rfl) (fun b101 => ?_) (fun b101 => ?_)
      · refine g_ld C d_Row_saveOneNode_108 rfl ?_
        exact K3 _ (by rw [if_neg (by omega)])
      · refine g_iconst (v := nI 4) C d_Row_saveOneNode_104 rfl ?_
        refine g_goto C 110 d_Row_saveOneNode_105 (by decide) ?_
        exact K3 4 (by rw [if_pos (by omega)])
  have K2 : V X w 0 0 [some (.ref q), some (.int (nI s)), some (.int (nI (s + n))), some (.int (nI i0)), some (.int (nI j0)), some (.int (nI (ps Q (j0 + 1) - ps Q i0))), none, none] [] 79 := by
    have herl : (Q.eraseIdx j0).length + 1 = Q.length := by rw [List.length_eraseIdx_of_lt (by omega)]; omega
    refine g_aldn C d_Row_saveOneNode_79 rfl ?_
    refine g_ld C d_Row_saveOneNode_80 rfl ?_
    refine g_callV (ci := kRow) C d_Row_saveOneNode_82 cw_Row_49 sl_Row_remove (c_Row_remove X.1 w q _ j0 (by rw [List.length_map]; omega) hq) rfl z0 (As := [.int (nI j0)]) rfl rfl rfl (Nat.le_of_ble_eq_true rfl) ⟨rfl, rfl, by decide, by decide⟩ ⟨by decide, by decide⟩ (kV (fun w2 h2 => ?_))
    refine g_ldn C d_Row_saveOneNode_85 rfl ?_
    refine g_st C [_, _, _, _, _, _, _, _] d_Row_saveOneNode_86 (Nat.le_of_ble_eq_true rfl) rfl ?_
    have h5 := h2.2
    rw [map_erase] at h5
    exact loop3 i0 (by omega) w2 (Q.eraseIdx j0) _ (Nat.le_refl _) h2.1 h5 herl (fun _ => by rw [Nat.sub_self]; rfl) (fun p hp => by rw [if_neg (by omega)])
  have loop2 : ∀ j, j ≤ j0 → i0 < j → V X w 0 0 [some (.ref q), some (.int (nI s)), some (.int (nI (s + n))), some (.int (nI i0)), some (.int (nI j)), some (.int (nI (ps Q (j + 1) - ps Q i0))), none, none] [] 43 := by
    refine upto _ (fun j hj ih hij2 => ?_)
    have hp1 := hps (j + 1)
    have hp2 := hps (j + 1 + 1)
    have e2 : ps Q (j + 1 + 1) = ps Q (j + 1) + gd 0 Q (j + 1) := ps_s Q (j + 1)
    have mo := ps_mono Q (a := i0) (b := j + 1) (by omega)
    have hg := hgd (j + 1)
    refine g_ld C d_Row_saveOneNode_43 rfl ?_
    refine g_ldn C d_Row_saveOneNode_45 rfl ?_
    refine g_iconst (v := nI 1) C d_Row_saveOneNode_46 rfl ?_
    first | refine g_subN C d_Row_saveOneNode_47 (by omega) ?_ | refine g_sub C d_Row_saveOneNode_47 ?_
    refine g_icmp_ge C 79 d_Row_saveOneNode_48 (by decide) (by first | exact nI_toInt (by omega) | rfl) (by first | exact nI_toInt (by omega) | rfl) (fun b48 => ?_) (fun b48 => ?_)
    · rw [show j = j0 by omega]; exact K2
    · refine g_ld C d_Row_saveOneNode_51 rfl ?_
      refine g_iconst (v := nI 4) C d_Row_saveOneNode_53 rfl ?_
      refine g_ld C d_Row_saveOneNode_54 rfl ?_
      refine g_ldn C d_Row_saveOneNode_56 rfl ?_
      first | refine g_subN C d_Row_saveOneNode_57 (by omega) ?_ | refine g_sub C d_Row_saveOneNode_57 ?_
      first | refine g_mulN C d_Row_saveOneNode_58 ?_ | refine g_mul C d_Row_saveOneNode_58 ?_
      refine g_icmp_le C 79 d_Row_saveOneNode_59 (by decide) (by first | exact nI_toInt (by omega) | rfl) (by first | exact nI_toInt (by omega) | rfl) (fun b59 => ?_) (fun b59 => ?_)
      · have e : j = j0 := by
          apply Classical.byContradiction
          intro z
          have := a7 j hij2 (by omega)
          omega
        rw [e]; exact K2
      · have hjj : j < j0 := by
          apply Classical.byContradiction
          intro z
          have e : j = j0 := by omega
          subst e
          omega
        refine g_incN C [_, _, _, _, _, _, _, _] d_Row_saveOneNode_62 rfl rfl ?_
        refine g_ld C d_Row_saveOneNode_65 rfl ?_
        refine g_aldn C d_Row_saveOneNode_67 rfl ?_
        refine g_ld C d_Row_saveOneNode_68 rfl ?_
        refine g_callV (ci := kRow) C d_Row_saveOneNode_70 cw_Row_46 sl_Row_cell (c_Row_cell X.1 w q _ (nI (j + 1)) hq) rfl z0 (As := [.int (nI (j + 1))]) rfl rfl rfl (Nat.le_of_ble_eq_true rfl) ⟨rfl, rfl, by decide, by decide⟩ ⟨by decide, by decide⟩ (kI (fun r w2 h2 => ?_))
        obtain ⟨rfl, rfl⟩ := h2
        rw [hcell (j + 1) (by omega)]
        first | refine g_addN C d_Row_saveOneNode_73 ?_ | refine g_add C d_Row_saveOneNode_73 ?_
        rw [show ps Q (j + 1) - ps Q i0 + gd 0 Q (j + 1) = ps Q (j + 1 + 1) - ps Q i0 by omega]
        refine g_st C [_, _, _, _, _, _, _, _] d_Row_saveOneNode_74 (Nat.le_of_ble_eq_true rfl) rfl ?_
        refine g_goto C 43 d_Row_saveOneNode_76 (by decide) ?_
        exact ih (j + 1) (by omega) (by omega) (by omega)
  have K1 : V X w 0 0 [some (.ref q), some (.int (nI s)), some (.int (nI (s + n))), some (.int (nI i0)), none, none, none, none] [] 24 := by
    have e1 : ps Q (i0 + 1) = ps Q i0 + gd 0 Q i0 := ps_s Q i0
    have e2 : ps Q (i0 + 1 + 1) = ps Q (i0 + 1) + gd 0 Q (i0 + 1) := ps_s Q (i0 + 1)
    have g1 := hgd i0
    have g2 := hgd (i0 + 1)
    refine g_ldn C d_Row_saveOneNode_24 rfl ?_
    refine g_iconst (v := nI 1) C d_Row_saveOneNode_25 rfl ?_
    first | refine g_addN C d_Row_saveOneNode_26 ?_ | refine g_add C d_Row_saveOneNode_26 ?_
    refine g_st C [_, _, _, _, _, _, _, _] d_Row_saveOneNode_27 (Nat.le_of_ble_eq_true rfl) rfl ?_
    refine g_aldn C d_Row_saveOneNode_29 rfl ?_
    refine g_ldn C d_Row_saveOneNode_30 rfl ?_
    refine g_callV (ci := kRow) C d_Row_saveOneNode_31 cw_Row_46 sl_Row_cell (c_Row_cell X.1 w q _ (nI i0) hq) rfl z0 (As := [.int (nI i0)]) rfl rfl rfl (Nat.le_of_ble_eq_true rfl) ⟨rfl, rfl, by decide, by decide⟩ ⟨by decide, by decide⟩ (kI (fun r w2 h2 => ?_))
    obtain ⟨rfl, rfl⟩ := h2
    rw [hcell i0 (by omega)]
    refine g_aldn C d_Row_saveOneNode_34 rfl ?_
    refine g_ld C d_Row_saveOneNode_35 rfl ?_
    refine g_callV (ci := kRow) C d_Row_saveOneNode_37 cw_Row_46 sl_Row_cell (c_Row_cell X.1 w2 q _ (nI (i0 + 1)) hq) rfl z0 (As := [.int (nI (i0 + 1))]) rfl rfl rfl (Nat.le_of_ble_eq_true rfl) ⟨rfl, rfl, by decide, by decide⟩ ⟨by decide, by decide⟩ (kI (fun r w3 h3 => ?_))
    obtain ⟨rfl, rfl⟩ := h3
    rw [hcell (i0 + 1) (by omega)]
    first | refine g_addN C d_Row_saveOneNode_40 ?_ | refine g_add C d_Row_saveOneNode_40 ?_
    rw [show gd 0 Q i0 + gd 0 Q (i0 + 1) = ps Q (i0 + 1 + 1) - ps Q i0 by omega]
    refine g_st C [_, _, _, _, _, _, _, _] d_Row_saveOneNode_41 (Nat.le_of_ble_eq_true rfl) rfl ?_
    exact loop2 (i0 + 1) (by omega) (by omega)
  have loop1 : ∀ i, i ≤ i0 → s ≤ i → V X w 0 0 [some (.ref q), some (.int (nI s)), some (.int (nI (s + n))), some (.int (nI i)), none, none, none, none] [] 2 := by
    refine upto _ (fun i hi ih hsi => ?_)
    have hg := hgd i
    refine g_ldn C d_Row_saveOneNode_2 rfl ?_
    refine g_ldn C d_Row_saveOneNode_3 rfl ?_
    refine g_iconst (v := nI 2) C d_Row_saveOneNode_4 rfl ?_
    first | refine g_subN C d_Row_saveOneNode_5 (by omega) ?_ | refine g_sub C d_Row_saveOneNode_5 ?_
    refine g_icmp_ge C 24 d_Row_saveOneNode_6 (by decide) (by first | exact nI_toInt (by omega) | rfl) (by first | exact nI_toInt (by omega) | rfl) (fun b6 => ?_) (fun b6 => ?_)
    · rw [show i = i0 by omega]; exact K1
    · refine g_aldn C d_Row_saveOneNode_9 rfl ?_
      refine g_ldn C d_Row_saveOneNode_10 rfl ?_
      refine g_callV (ci := kRow) C d_Row_saveOneNode_11 cw_Row_46 sl_Row_cell (c_Row_cell X.1 w q _ (nI i) hq) rfl z0 (As := [.int (nI i)]) rfl rfl rfl (Nat.le_of_ble_eq_true rfl) ⟨rfl, rfl, by decide, by decide⟩ ⟨by decide, by decide⟩ (kI (fun r w2 h2 => ?_))
      obtain ⟨rfl, rfl⟩ := h2
      rw [hcell i (by omega)]
      refine g_iconst (v := nI 4) C d_Row_saveOneNode_14 rfl ?_
      refine g_icmp_lt C 24 d_Row_saveOneNode_15 (by decide) (by first | exact nI_toInt (by omega) | rfl) (by first | exact nI_toInt (by omega) | rfl) (fun b15 => ?_) (fun b15 => ?_)
      · have e : i = i0 := by
          apply Classical.byContradiction
          intro z
          have := a5 i hsi (by omega)
          omega
        rw [e]; exact K1
      · have hii : i < i0 := by
          apply Classical.byContradiction
          intro z
          have e : i = i0 := by omega
          subst e
          omega
        refine g_incN C [_, _, _, _, _, _, _, _] d_Row_saveOneNode_18 rfl rfl ?_
        refine g_goto C 2 d_Row_saveOneNode_21 (by decide) ?_
        exact ih (i + 1) (by omega) (by omega) (by omega)
  refine g_ldn C d_Row_saveOneNode_0 rfl ?_
  refine g_stn C [_, _, _, _, _, _, _, _] d_Row_saveOneNode_1 (Nat.le_of_ble_eq_true rfl) rfl ?_
  exact loop1 s a1 (Nat.le_refl _)
set_option maxRecDepth 100000 in
set_option maxHeartbeats 4000000 in
theorem c_Row_pack (N : gN) (w : gW) (q s n : Nat) (Q : List Nat) (hQ : okR Q) (hs : s + n ≤ Q.length) (hn : 1 ≤ n) (hq : RowV w q (Q.map nI)) : CtN N y_Row_pack b_Row_pack 5 (some FieldType.int) (rmm 3 86 0 0) [.ref q, .int (nI s), .int (nI (s + n))] w (pI (fun r w' => Sm w w' q (q + 2) ∧ RowV w' q ((pack Q s n).1.map nI) ∧ r = nI (pack Q s n).2)) 0 0 := by
  refine ct_intro N [some (.ref q), some (.int (nI s)), some (.int (nI (s + n))), none, none] (by decide) rfl (Nat.le_of_ble_eq_true rfl) (by simp [Value.category]) ?_
  intro X hX C Rr
  have hl80 := hq.len
  rw [List.length_map] at hl80
  have hps1 := okR_ps hQ hl80 (s + n)
  have mo := ps_mono Q (a := s) (b := s + n) (by omega)
  obtain ⟨f9, z0, z1, z2, z3⟩ := id hq
  have loop : ∀ m, ∀ (w1 : gW) (Qc : List Nat), Sm w w1 q (q + 2) → RowV w1 q (Qc.map nI) → okR Qc → s + m ≤ Qc.length → ps Qc (s + m) - ps Qc s = ps Q (s + n) - ps Q s → 1 ≤ m → m ≤ n → pkN m Qc s m (ps Q (s + n) - ps Q s) = pack Q s n → V X w1 0 0 [some (.ref q), some (.int (nI s)), some (.int (nI (s + n))), some (.int (nI (ps Q (s + n) - ps Q s))), some (.int (nI m))] [] 17 := by
    intro m
    induction m with
    | zero => intro w1 Qc _ _ _ _ _ h1; omega
    | succ m ih =>
      intro w1 Qc hS hR hQc hsc htc h1 hmn hpk
      obtain ⟨f8, y0, y1, y2, y3⟩ := id hR
      refine g_ld C d_Row_pack_17 rfl ?_
      refine g_ldn C d_Row_pack_19 rfl ?_
      refine g_iconst (v := nI 4) C d_Row_pack_20 rfl ?_
      first | refine g_addN C d_Row_pack_21 ?_ | refine g_add C d_Row_pack_21 ?_
      refine g_iconst (v := nI 1) C d_Row_pack_22 rfl ?_
      first | refine g_subN C d_Row_pack_23 (by omega) ?_ | refine g_sub C d_Row_pack_23 ?_
      refine g_iconst (v := nI 4) C d_Row_pack_24 rfl ?_
      refine g_divN C d_Row_pack_25 (by omega) (by omega) (by omega) ?_
      refine g_iconst (v := nI 1) C d_Row_pack_26 rfl ?_
      first | refine g_addN C d_Row_pack_27 ?_ | refine g_add C d_Row_pack_27 ?_
      refine g_icmp_le C 46 d_Row_pack_28 (by decide) (by first | exact nI_toInt (by omega) | rfl) (by first | exact nI_toInt (by omega) | rfl) (fun b28 => ?_) (fun b28 => ?_)
      · have e : pack Q s n = (Qc, m + 1) := by
          rw [← hpk]
          simp only [pkN]
          rw [if_neg (by omega)]
        refine g_ld C d_Row_pack_46 rfl ?_
        exact g_iret C Rr d_Row_pack_48 rfl (by decide) (by decide) ⟨_, rfl, hS, by rw [e]; exact hR, by rw [e]⟩
      · have hc : (ps Qc (s + (m + 1)) - ps Qc s + 3) / 4 + 1 < m + 1 := by rw [htc]; omega
        obtain ⟨i0, j0, hij⟩ := pk_find hQc hsc rfl hc
        have hsum := pk1_sum hQc hij hsc
        refine g_aldn C d_Row_pack_31 rfl ?_
        refine g_ldn C d_Row_pack_32 rfl ?_
        refine g_ldn C d_Row_pack_33 rfl ?_
        refine g_ld C d_Row_pack_34 rfl ?_
        first | refine g_addN C d_Row_pack_36 ?_ | refine g_add C d_Row_pack_36 ?_
        refine g_callV (ci := kRow) C d_Row_pack_37 cw_Row_42 sl_Row_saveOneNode (c_Row_saveOneNode X.1 w1 q s (m + 1) Qc hQc hsc hc hR) rfl y0 (As := [.int (nI s), .int (nI (s + (m + 1)))]) rfl rfl rfl (Nat.le_of_ble_eq_true rfl) ⟨rfl, rfl, by decide, by decide⟩ ⟨by decide, by decide⟩ (kV (fun w2 h2 => ?_))
        refine g_decN C [_, _, _, _, _] d_Row_pack_40 rfl (by omega) rfl ?_
        refine g_goto C 17 d_Row_pack_43 (by decide) ?_
        refine ih w2 (pk1 Qc s) (hS.trans h2.1) h2.2 (pk1_ok hQc hij hsc) (by rw [pk1_len]; omega) ?_ (by omega) (by omega) ?_
        · have := hsum.2
          rw [Nat.add_sub_cancel] at this
          rw [this, htc]
        · rw [← hpk]
          simp only [pkN]
          rw [if_pos (by omega)]
          rfl
  refine g_aldn C d_Row_pack_0 rfl ?_
  refine g_ldn C d_Row_pack_1 rfl ?_
  refine g_callV (ci := kRow) C d_Row_pack_2 cw_Row_38 sl_Row_sumBefore (c_Row_sumBefore X.1 w q (s + n) (by omega) Q hQ hq) rfl z0 (As := [.int (nI (s + n))]) rfl rfl rfl (Nat.le_of_ble_eq_true rfl) ⟨rfl, rfl, by decide, by decide⟩ ⟨by decide, by decide⟩ (kI (fun r w2 h2 => ?_))
  obtain ⟨rfl, rfl⟩ := h2
  refine g_aldn C d_Row_pack_5 rfl ?_
  refine g_ldn C d_Row_pack_6 rfl ?_
  refine g_callV (ci := kRow) C d_Row_pack_7 cw_Row_38 sl_Row_sumBefore (c_Row_sumBefore X.1 w2 q s (by omega) Q hQ hq) rfl z0 (As := [.int (nI s)]) rfl rfl rfl (Nat.le_of_ble_eq_true rfl) ⟨rfl, rfl, by decide, by decide⟩ ⟨by decide, by decide⟩ (kI (fun r w3 h3 => ?_))
  obtain ⟨rfl, rfl⟩ := h3
  first | refine g_subN C d_Row_pack_10 (by omega) ?_ | refine g_sub C d_Row_pack_10 ?_
  refine g_stn C [_, _, _, _, _] d_Row_pack_11 (Nat.le_of_ble_eq_true rfl) rfl ?_
  refine g_ldn C d_Row_pack_12 rfl ?_
  refine g_ldn C d_Row_pack_13 rfl ?_
  first | refine g_subN C d_Row_pack_14 (by omega) ?_ | refine g_sub C d_Row_pack_14 ?_
  rw [Nat.add_sub_cancel_left]
  refine g_st C [_, _, _, _, _] d_Row_pack_15 (Nat.le_of_ble_eq_true rfl) rfl ?_
  exact loop n w3 Q Sm.rf hq hQ hs rfl hn (Nat.le_refl _) rfl
set_option maxRecDepth 100000 in
set_option maxHeartbeats 4000000 in
theorem c_Row_init (N : gN) (w : gW) (q : Nat) (hsz : w.2 = q + 1) (h0 : w.1 q = some (.inr (kRow, [.null, .int (nI 0)]))) : CtN N y_Row_init b_Row_init 1 none (rmm 1 20 1 80) [.ref q] w (pV (fun w' => Sn w w' q 1 ∧ RowV w' q [])) 1 80 := by
  refine ct_intro N [some (.ref q)] (by decide) rfl (Nat.le_of_ble_eq_true rfl) (by simp [Value.category]) ?_
  intro X hX C Rr
  refine g_aldn C d_Row_init_0 rfl ?_
  refine g_objInit C d_Row_init_1 ow_Row_3 oi_inst oi_code rfl (by decide) (by decide) ?_
  refine g_aldn C d_Row_init_4 rfl ?_
  refine g_bipush (v := nI 80) C d_Row_init_5 (by decide) ?_
  refine g_newa (kd := 0) C d_Row_init_7 rfl rfl ⟨rfl, by decide, fun _ _ h => h⟩ m_69 (by decide) (by decide) (by decide) ?_
  rw [hsz]
  have k0 := (gnew_ne w (b := q) (.inl (0, 80, .inl (fun _ => 0))) (by omega)).trans h0
  have k1 := gnew_self w (.inl (0, 80, .inl (fun _ => 0)))
  rw [hsz] at k1
  refine g_putF C Rr d_Row_init_9 fl_Row_9 ft_Row (ty := .array .int) ⟨_, _, _, rfl, rfl, by decide +kernel⟩ ⟨_, _, rfl⟩ k0 rfl rfl (Nat.le_of_ble_eq_true rfl) rfl ?_
  have k2 := gset_self (gnew w (.inl (0, 80, .inl (fun _ => 0)))) q (.inr (kRow, [.ref (q + 1), .int (nI 0)]))
  refine g_aldn C d_Row_init_12 rfl ?_
  refine g_iconst (v := nI 0) C d_Row_init_13 rfl ?_
  refine g_put C d_Row_init_14 fl_Row_15 ft_Row (ty := .int) ⟨_, _, _, rfl, rfl, by decide +kernel⟩ k2 rfl rfl (Nat.le_of_ble_eq_true rfl) rfl ?_
  exact g_vret C Rr d_Row_init_17 (by decide) (by decide) ⟨rfl, ⟨by rw [gset_sz, gset_sz, gnew_sz], fun p hp => (gset_ne _ _ (by omega)).trans ((gset_ne _ _ (by omega)).trans (gnew_ne _ _ (by omega)))⟩, _, gset_self _ _ _, (gset_ne _ _ (by omega)).trans ((gset_ne _ _ (by omega)).trans k1), by simp, fun i hi => by simp at hi⟩
