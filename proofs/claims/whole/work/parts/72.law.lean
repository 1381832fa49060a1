/-! THE LAW: its walk. -/
set_option maxHeartbeats 4000000 in
theorem law_loop {X : gX} (C : Fx X code "RelaxedRadixVectorLaw" 4 room_1) (hE : lEnd X) {b L : Nat} {xs : Nat → Int32} (hX : lX X b L xs) (hbl : b < X.1.2.2.1.size) (hN : L ≤ 2048) (x : Nat) : ∀ d q, L + 4 ≤ 4 * q + 4 * d → 4 * q ≤ L + 3 → ∀ w S, lSt w x S → V X w (82 + 17 * q) (30000 + 700 * q) [some (.ref b), some (.ref x), some (.ref (x + 68)), some (.int (nI (4 * q)))] [] 18 := by
  intro d
  induction d with
  | zero => intro q h1 h2; omega
  | succ d ih =>
    intro q h1 h2 w S hL
    refine g_ldn C d_Law_law_18 rfl ?_
    refine g_aldn C d_Law_law_19 rfl ?_
    refine g_slen C d_Law_law_20 hX hbl hN ?_
    refine g_iconst (v := nI 4) C d_Law_law_21 rfl ?_
    refine g_sub C d_Law_law_22 ?_
    refine g_icmp_gt C 765 d_Law_law_23 (by decide) (by first | exact nI_toInt (by omega) | rfl) (nI_sub4 hN) (fun b23 => ?_) (fun b23 => ?_)
    · refine g_iconst (v := nI 1) C d_Law_law_765 rfl ?_
      exact hE w _ _ _ (by omega) (by omega)
    · have hq : 4 * q + 4 ≤ L := by omega
      have next : ∀ w2 S2, lSt w2 x S2 → V X w2 (82 + 17 * (q + 1)) (30000 + 700 * (q + 1)) [some (.ref b), some (.ref x), some (.ref (x + 68)), some (.int (nI (4 * q)))] [] 759 := by
        intro w2 S2 hL2
        refine g_iinc C [_, _, _, _] d_Law_law_759 rfl (v := nI (4 * (q + 1))) (by rw [show 4 * (q + 1) = 4 * q + 4 by omega]; exact nI_add (4 * q) 4) rfl ?_
        refine g_goto C 18 d_Law_law_762 (by decide) ?_
        exact ih (q + 1) (by omega) (by omega) w2 S2 hL2
      refine g_aldn C d_Law_law_26 rfl ?_
      refine g_ldn C d_Law_law_27 rfl ?_
      refine g_sld C d_Law_law_28 hX hbl hN (by omega) (by omega) ?_
      refine g_bipush (v := nI 31) C d_Law_law_29 (by decide) ?_
      refine g_and C d_Law_law_31 ?_
      obtain ⟨a, ha, e⟩ := and31 (xs (4 * q))
      rw [e]
      by_cases h20 : a < 20
      · rcases (show a = 0 ∨ a = 1 ∨ a = 2 ∨ a = 3 ∨ a = 4 ∨ a = 5 ∨ a = 6 ∨ a = 7 ∨ a = 8 ∨ a = 9 ∨ a = 10 ∨ a = 11 ∨ a = 12 ∨ a = 13 ∨ a = 14 ∨ a = 15 ∨ a = 16 ∨ a = 17 ∨ a = 18 ∨ a = 19 by omega) with rfl | rfl | rfl | rfl | rfl | rfl | rfl | rfl | rfl | rfl | rfl | rfl | rfl | rfl | rfl | rfl | rfl | rfl | rfl | rfl
        · exact g_tabIn (off := 96) C 128 d_Law_law_32 (by decide) (by decide) (by decide) (by decide) (op_append C hX hbl hN hq w x S hL next)
        · exact g_tabIn (off := 129) C 161 d_Law_law_32 (by decide) (by decide) (by decide) (by decide) (op_prepend C hX hbl hN hq w x S hL next)
        · exact g_tabIn (off := 162) C 194 d_Law_law_32 (by decide) (by decide) (by decide) (by decide) (op_set C hX hbl hN hq w x S hL next)
        · exact g_tabIn (off := 205) C 237 d_Law_law_32 (by decide) (by decide) (by decide) (by decide) (op_concat C hX hbl hN hq w x S hL next)
        · exact g_tabIn (off := 238) C 270 d_Law_law_32 (by decide) (by decide) (by decide) (by decide) (op_slice C hX hbl hN hq w x S hL next)
        · exact g_tabIn (off := 281) C 313 d_Law_law_32 (by decide) (by decide) (by decide) (by decide) (op_insertAt C hX hbl hN hq w x S hL next)
        · exact g_tabIn (off := 324) C 356 d_Law_law_32 (by decide) (by decide) (by decide) (by decide) (op_removeAt C hX hbl hN hq w x S hL next)
        · exact g_tabIn (off := 357) C 389 d_Law_law_32 (by decide) (by decide) (by decide) (by decide) (op_thaw C hX hbl hN hq w x S hL next)
        · exact g_tabIn (off := 380) C 412 d_Law_law_32 (by decide) (by decide) (by decide) (by decide) (op_push C hX hbl hN hq w x S hL next)
        · exact g_tabIn (off := 413) C 445 d_Law_law_32 (by decide) (by decide) (by decide) (by decide) (op_put C hX hbl hN hq w x S hL next)
        · exact g_tabIn (off := 456) C 488 d_Law_law_32 (by decide) (by decide) (by decide) (by decide) (op_freeze C hX hbl hN hq w x S hL next)
        · exact g_tabIn (off := 479) C 511 d_Law_law_32 (by decide) (by decide) (by decide) (by decide) (op_versions C hX hbl hN hq w x S hL next)
        · exact g_tabIn (off := 492) C 524 d_Law_law_32 (by decide) (by decide) (by decide) (by decide) (op_size C hX hbl hN hq w x S hL next)
        · exact g_tabIn (off := 515) C 547 d_Law_law_32 (by decide) (by decide) (by decide) (by decide) (op_get C hX hbl hN hq w x S hL next)
        · exact g_tabIn (off := 549) C 581 d_Law_law_32 (by decide) (by decide) (by decide) (by decide) (op_hash C hX hbl hN hq w x S hL next)
        · exact g_tabIn (off := 572) C 604 d_Law_law_32 (by decide) (by decide) (by decide) (by decide) (op_compare C hX hbl hN hq w x S hL next)
        · exact g_tabIn (off := 605) C 637 d_Law_law_32 (by decide) (by decide) (by decide) (by decide) (op_height C hX hbl hN hq w x S hL next)
        · exact g_tabIn (off := 628) C 660 d_Law_law_32 (by decide) (by decide) (by decide) (by decide) (op_nodes C hX hbl hN hq w x S hL next)
        · exact g_tabIn (off := 651) C 683 d_Law_law_32 (by decide) (by decide) (by decide) (by decide) (op_row C hX hbl hN hq w x S hL next)
        · exact g_tabIn (off := 694) C 726 d_Law_law_32 (by decide) (by decide) (by decide) (by decide) (op_probes C hX hbl hN hq w x S hL next)
      · refine g_tabOut C 759 d_Law_law_32 (Or.inr (by rw [nI_toInt (by omega)]; omega)) (by decide) ?_
        exact V.wid (by omega) (by omega) (next w S hL)
set_option maxHeartbeats 4000000 in
theorem law_all {X : gX} (C : Fx X code "RelaxedRadixVectorLaw" 4 room_1) (hE : lEnd X) {b L : Nat} {xs : Nat → Int32} (hX : lX X b L xs) (hbl : b < X.1.2.2.1.size) (hN : L ≤ 2048) (w : gW) : V X w 0 0 [some (.ref b), none, none, none] [] 0 := by
  refine g_new (ci := kCls) (fs := [.null, .null, .null, .null, .null]) C tyCls d_Law_law_0 rfl tyCls_ok uw_Cls m_14 m_15 m_1 (fun j hj => by rcases (show j = 0 ∨ j = 1 ∨ j = 2 ∨ j = 3 ∨ j = 4 by omega) with rfl | rfl | rfl | rfl | rfl <;> rfl) (show _ ≤ 600000 by omega) (show _ ≤ 7302250 by omega) ?_
  have z1 := gnew_sz w (.inr (kCls, [.null, .null, .null, .null, .null]))
  have s1 := gnew_self w (.inr (kCls, [.null, .null, .null, .null, .null]))
  generalize gnew w (.inr (kCls, [.null, .null, .null, .null, .null])) = w1 at z1 s1 ⊢
  generalize w.2 = x at z1 s1 ⊢
  refine g_dup C d_Law_law_3 rfl ?_
  refine g_callI C d_Law_law_4 cw_Law_9 si_Cls_init (c_Cls_init X.1 w1 x z1 s1) (As := []) rfl rfl rfl (Nat.le_of_ble_eq_true rfl) ⟨rfl, rfl, by decide, by decide⟩ ⟨show _ ≤ 600000 by omega, show _ ≤ 7302250 by omega⟩ (kV (fun w2 h2 => ?_))
  obtain ⟨z2, o2, hu⟩ := h2
  refine g_astn C [_, _, _, _] d_Law_law_7 (Nat.le_of_ble_eq_true rfl) rfl ?_
  refine g_new (ci := kMod) (fs := [.null, .null, .null, .null, .null, .null, .int (nI 0), .null, .null, .null, .null, .null, .null, .null]) C tyMod d_Law_law_8 rfl tyMod_ok uw_Mod m_393 m_394 m_11 (fun j hj => by rcases (show j = 0 ∨ j = 1 ∨ j = 2 ∨ j = 3 ∨ j = 4 ∨ j = 5 ∨ j = 6 ∨ j = 7 ∨ j = 8 ∨ j = 9 ∨ j = 10 ∨ j = 11 ∨ j = 12 ∨ j = 13 by omega) with rfl | rfl | rfl | rfl | rfl | rfl | rfl | rfl | rfl | rfl | rfl | rfl | rfl | rfl <;> rfl) (show _ ≤ 600000 by omega) (show _ ≤ 7302250 by omega) ?_
  rw [z2]
  have z3 := gnew_sz w2 (.inr (kMod, [.null, .null, .null, .null, .null, .null, .int (nI 0), .null, .null, .null, .null, .null, .null, .null]))
  have s3 := gnew_self w2 (.inr (kMod, [.null, .null, .null, .null, .null, .null, .int (nI 0), .null, .null, .null, .null, .null, .null, .null]))
  have o3 : ∀ p, p < x + 68 → (gnew w2 (.inr (kMod, [.null, .null, .null, .null, .null, .null, .int (nI 0), .null, .null, .null, .null, .null, .null, .null]))).1 p = w2.1 p := fun p hp => gnew_ne _ _ (by omega)
  rw [z2] at z3 s3
  generalize gnew w2 (.inr (kMod, [.null, .null, .null, .null, .null, .null, .int (nI 0), .null, .null, .null, .null, .null, .null, .null])) = w3 at z3 s3 o3 ⊢
  refine g_dup C d_Law_law_11 rfl ?_
  refine g_callI C d_Law_law_12 cw_Law_12 si_Mod_init (c_Mod_init X.1 w3 (x + 68) z3 s3) (As := []) rfl rfl rfl (Nat.le_of_ble_eq_true rfl) ⟨rfl, rfl, by decide, by decide⟩ ⟨show _ ≤ 600000 by omega, show _ ≤ 7302250 by omega⟩ (kV (fun w4 h4 => ?_))
  obtain ⟨z4, o4, hR⟩ := h4
  refine g_astn C [_, _, _, _] d_Law_law_15 (Nat.le_of_ble_eq_true rfl) rfl ?_
  refine g_iconst (v := nI 0) C d_Law_law_16 rfl ?_
  refine g_stn C [_, _, _, _] d_Law_law_17 (Nat.le_of_ble_eq_true rfl) rfl ?_
  obtain ⟨ed, ts, O, hC⟩ := hu w4 (fun p hp => (o4 p hp).trans (o3 p hp)) (by omega)
  exact V.wid (by omega) (by omega) (law_loop C hE hX hbl hN x (L + 1) 0 (by omega) (by omega) w4 [(T0, false)] ⟨ed, ts, O, _, hC, hR, RefS.fresh⟩)
