/-! THE REFERENCE: lowering, cutting. -/
def lft (r : Nat → List Nat) (f e l : Nat) : List Nat := ovs (cutF r f (l - 1)) (cutE r f e (l - 1)) 0 (r l)
theorem lft_len (r : Nat → List Nat) (f e l : Nat) : (lft r f e l).length = (r l).length := ovs_len _ _ _ _
theorem lft_pos (r : Nat → List Nat) (f e : Nat) {l : Nat} (h : 1 ≤ l) : pos (lft r f e l) = cutR r f e l := by
  obtain ⟨k, rfl⟩ : ∃ k, l = k + 1 := ⟨l - 1, by omega⟩
  rfl
theorem lft_up {M : Nat} {T : Tr} (hw : wfT M T) {f e : Nat} (hfe : f ≤ e) (he : e ≤ T.1.length) {l : Nat} (l1 : 1 ≤ l) (l2 : l < T.2.2) : cnts (T.2.1 (l + 1)) (lft T.2.1 f e l) = lft T.2.1 f e (l + 1) := by
  obtain ⟨k, rfl⟩ : ∃ k, l = k + 1 := ⟨l - 1, by omega⟩
  have s2 := (hw.2.2.2.2.1 (k + 1 + 1) (by omega) (by omega)).2
  have s1 := hw.2.2.2.2.1 (k + 1) (by omega) (by omega)
  rw [Nat.add_sub_cancel, cn_p T (by omega)] at s2
  rw [Nat.add_sub_cancel] at s1
  unfold lft
  rw [Nat.add_sub_cancel, Nat.add_sub_cancel]
  by_cases h : f < e
  · have hc := cut_in hw h he k (by omega)
    exact cut_up (fun x hx => (s1.1 x hx).1) (by omega) hc.1 (by rw [s1.2]; exact hc.2)
  · obtain rfl : f = e := by omega
    rw [← (cut_none T.2.1 f k).1, ← (cut_none T.2.1 f (k + 1)).1, ovs_same, ovs_same, cnts_zeros]
theorem lft_bd {M : Nat} {T : Tr} (hw : wfT M T) {f e : Nat} (hf : f ≤ 80) (he : e ≤ 80) (l q : Nat) : gd 0 (lft T.2.1 f e l) q ≤ 160 := by
  by_cases h : q < (T.2.1 l).length
  · unfold lft
    rw [ovs_gd _ _ _ _ _ h]
    have := (cut_bd hw hf he (l - 1)).2
    omega
  · rw [gd_ge (by rw [lft_len]; omega)]; omega
theorem cnts_len (P : List Nat) : ∀ l, (cnts P l).length = P.length := by
  induction P with
  | nil => intro l; rfl
  | cons x P ih => intro l; simp [cnts, ih]
theorem cnts_gd (P : List Nat) : ∀ (l : List Nat) (j : Nat), j < P.length → gd 0 (cnts P l) j = (pos ((l.drop (ps P j)).take (gd 0 P j))).length := by
  induction P with
  | nil => intro l j h; simp at h
  | cons x P ih =>
    intro l j h
    cases j with
    | zero => rw [ps_0, gd_0]; simp only [cnts]; rw [gd_0]; rfl
    | succ j =>
      rw [ps_cons, gd_s]
      simp only [cnts]
      rw [gd_s, ih (l.drop x) j (by simp at h; omega), List.drop_drop]
theorem pos_step (l : List Nat) (s q : Nat) (h : s + q < l.length) : (pos ((l.drop s).take (q + 1))).length = (pos ((l.drop s).take q)).length + (if 0 < gd 0 l (s + q) then 1 else 0) := by
  rw [pos_take _ _ (by simp; omega), List.length_append, gd_drop]
  by_cases e : 0 < gd 0 l (s + q)
  · rw [if_pos e, if_pos e]; rfl
  · rw [if_neg e, if_neg e]; rfl
theorem pos_le (l : List Nat) (k : Nat) : (pos (l.take k)).length ≤ k := Nat.le_trans (pos_len _) (by simp; omega)
set_option maxRecDepth 100000 in
set_option maxHeartbeats 4000000 in
theorem c_Mod_lower (N : gN) (w0 w : gW) (m : Nat) (R : RA) (md a : Nat) (L : List Int32) (Q : Nat → List Nat) (h : Nat) (ha : a < 3) (h6 : h ≤ 6) (hR : RefW w0 w m R md) (hE : WE R a L) (hH : R 10 a = nI h) (hQ : ∀ l, 1 ≤ l → l ≤ 6 → WRow R a l (Q l)) (hab : ∀ l, h < l → Q l = []) (hz : L.length = 0 → ∀ l, Q l = []) (hne : L.length ≠ 0 → 1 ≤ h ∧ ∀ l, 1 ≤ l → l ≤ h → 1 ≤ (Q l).length ∧ gd 0 (Q l) 0 ≤ 4) : CtN N y_Mod_lower b_Mod_lower 2 none (rmm 1 22 0 0) [.ref m, .int (nI a)] w (pV (fun w' => ∃ R', RefW w0 w' m R' md ∧ WkR R' a (L, fun l => if l ≤ (if L.length = 0 then 0 else lowH Q h) then Q l else [], if L.length = 0 then 0 else lowH Q h) ∧ FrW a R R')) 0 0 := by
  refine ct_intro N [some (.ref m), some (.int (nI a))] (by decide) rfl (Nat.le_of_ble_eq_true rfl) (by simp [Value.category]) ?_
  intro X hX C Rr
  have l80 := hE.2.1
  have loop : ∀ g w1 R1, g ≤ h → RefW w0 w1 m R1 md → FrW a R R1 → WE R1 a L → R1 10 a = nI g → (∀ l, 1 ≤ l → l ≤ 6 → WRow R1 a l (if l ≤ g then Q l else [])) → lowH Q g = (if L.length = 0 then 0 else lowH Q h) → (1 ≤ g → L.length ≠ 0) → V X w1 0 0 [some (.ref m), some (.int (nI a))] [] 16 := by
    intro g
    induction g with
    | zero =>
      intro w R1 hg hR hF hE hH hQ hl hn
      refine g_aldn C d_Mod_lower_16 rfl ?_
      refine r_f11 C d_Mod_lower_17 hR ?_
      refine g_ldn C d_Mod_lower_20 rfl ?_
      refine r_ld10 C d_Mod_lower_21 hR (by omega) hH ?_
      refine g_iconst (v := nI 1) C d_Mod_lower_22 rfl ?_
      refine g_icmp_le C 76 d_Mod_lower_23 (by decide) (by first | exact nI_toInt (by omega) | rfl) (by first | exact nI_toInt (by omega) | rfl) (fun b23 => ?_) (fun b23 => ?_)
      · exact g_vret C Rr d_Mod_lower_76 (by decide) (by decide) ⟨rfl, R1, hR, ⟨hE, by show R1 10 a = nI (if L.length = 0 then 0 else lowH Q h); rw [← hl]; exact hH, fun l l1 l6 => by show WRow R1 a l (if l ≤ (if L.length = 0 then 0 else lowH Q h) then Q l else []); rw [← hl]; exact hQ l l1 l6⟩, hF⟩
      · exfalso; omega
    | succ g ih =>
      intro w R1 hg hR hF hE hH hQ hl hn
      have hn0 := hn (by omega)
      have hgr := (hne hn0).2 (g + 1) (by omega) hg
      have qg := hQ (g + 1) (by omega) (by omega)
      rw [if_pos (Nat.le_refl _)] at qg
      refine g_aldn C d_Mod_lower_16 rfl ?_
      refine r_f11 C d_Mod_lower_17 hR ?_
      refine g_ldn C d_Mod_lower_20 rfl ?_
      refine r_ld10 C d_Mod_lower_21 hR (by omega) hH ?_
      refine g_iconst (v := nI 1) C d_Mod_lower_22 rfl ?_
      refine g_icmp_le C 76 d_Mod_lower_23 (by decide) (by first | exact nI_toInt (by omega) | rfl) (by first | exact nI_toInt (by omega) | rfl) (fun b23 => ?_) (fun b23 => ?_)
      · have g0 : g = 0 := by omega
        subst g0
        have hs : lowH Q (0 + 1) = 0 + 1 := rfl
        exact g_vret C Rr d_Mod_lower_76 (by decide) (by decide) ⟨rfl, R1, hR, ⟨hE, by show R1 10 a = nI (if L.length = 0 then 0 else lowH Q h); rw [← hl, hs]; exact hH, fun l l1 l6 => by show WRow R1 a l (if l ≤ (if L.length = 0 then 0 else lowH Q h) then Q l else []); rw [← hl, hs]; exact hQ l l1 l6⟩, hF⟩
      · obtain ⟨g, rfl⟩ : ∃ y, g = y + 1 := ⟨g - 1, by omega⟩
        refine g_aldn C d_Mod_lower_26 rfl ?_
        refine r_f8 C d_Mod_lower_27 hR ?_
        refine g_ldn C d_Mod_lower_30 rfl ?_
        refine g_aldn C d_Mod_lower_31 rfl ?_
        refine r_f11 C d_Mod_lower_32 hR ?_
        refine g_ldn C d_Mod_lower_35 rfl ?_
        refine r_ld10 C d_Mod_lower_36 hR (by omega) hH ?_
        refine g_iconst (v := nI 0) C d_Mod_lower_37 rfl ?_
        refine r_cell C d_Mod_lower_38 (by omega) rfl (Nat.le_of_ble_eq_true rfl) (by decide) (by decide) (by decide) (by decide) ?_
        refine r_ld7 C d_Mod_lower_41 hR (by omega) (qg.2.2 0 (by omega)) ?_
        refine g_iconst (v := nI 1) C d_Mod_lower_42 rfl ?_
        refine g_icmp_ne C 76 d_Mod_lower_43 (by decide) (by first | exact nI_toInt (by omega) | rfl) (by first | exact nI_toInt (by omega) | rfl) (fun b43 => ?_) (fun b43 => ?_)
        · have hs : lowH Q (g + 1 + 1) = g + 1 + 1 := by show (if gd 0 (Q (g + 1 + 1)) 0 = 1 then lowH Q (g + 1) else g + 1 + 1) = _; rw [if_neg (by omega)]
          exact g_vret C Rr d_Mod_lower_76 (by decide) (by decide) ⟨rfl, R1, hR, ⟨hE, by show R1 10 a = nI (if L.length = 0 then 0 else lowH Q h); rw [← hl, hs]; exact hH, fun l l1 l6 => by show WRow R1 a l (if l ≤ (if L.length = 0 then 0 else lowH Q h) then Q l else []); rw [← hl, hs]; exact hQ l l1 l6⟩, hF⟩
        · have hs : lowH Q (g + 1 + 1) = lowH Q (g + 1) := by show (if gd 0 (Q (g + 1 + 1)) 0 = 1 then lowH Q (g + 1) else g + 1 + 1) = _; rw [if_pos (by omega)]
          refine g_aldn C d_Mod_lower_46 rfl ?_
          refine r_f9 C d_Mod_lower_47 hR ?_
          refine g_bipush (v := nI 8) C d_Mod_lower_50 (by decide) ?_
          refine g_ldn C d_Mod_lower_52 rfl ?_
          first | refine g_mulN C d_Mod_lower_53 ?_ | refine g_mul C d_Mod_lower_53 ?_
          refine g_aldn C d_Mod_lower_54 rfl ?_
          refine r_f11 C d_Mod_lower_55 hR ?_
          refine g_ldn C d_Mod_lower_58 rfl ?_
          refine r_ld10 C d_Mod_lower_59 hR (by omega) hH ?_
          first | refine g_addN C d_Mod_lower_60 ?_ | refine g_add C d_Mod_lower_60 ?_
          refine g_iconst (v := nI 0) C d_Mod_lower_61 rfl ?_
          refine r_st8 C d_Mod_lower_62 hR (by omega) (fun w hR => ?_)
          refine g_aldn C d_Mod_lower_63 rfl ?_
          refine r_f11 C d_Mod_lower_64 hR ?_
          refine g_ldn C d_Mod_lower_67 rfl ?_
          refine g_dup2 C d_Mod_lower_68 rfl rfl ?_
          refine r_ld10 C d_Mod_lower_69 hR (by omega) ((rupn (by omega)).trans hH) ?_
          refine g_iconst (v := nI 1) C d_Mod_lower_70 rfl ?_
          first | refine g_subN C d_Mod_lower_71 (by omega) ?_ | refine g_sub C d_Mod_lower_71 ?_
          refine r_st10 C d_Mod_lower_72 hR (by omega) (fun w hR => ?_)
          refine g_goto C 16 d_Mod_lower_73 (by decide) ?_
          refine ih _ _ (by omega) hR ((hF.up (by unfold WA; omega)).up (by unfold WA; omega)) ⟨(rupn (by omega)).trans ((rupn (by omega)).trans hE.1), hE.2.1, fun q hq => (rupn (by omega)).trans ((rupn (by omega)).trans (hE.2.2 q hq))⟩ (rups.trans (by congr 1)) (fun l l1 l6 => ?_) (hs.symm.trans hl) (fun _ => hn0)
          by_cases e : l = g + 1 + 1
          · rw [e, if_neg (by omega)]
            exact ⟨(rupn (by omega)).trans rups, by simp, fun q hq => by simp at hq⟩
          · have q := hQ l l1 l6
            by_cases e2 : l ≤ g + 1
            · rw [if_pos (by omega)] at q; rw [if_pos e2]; exact q.fr ((rupn (by omega)).trans (rupn (by omega))) (fun b hb => (rupn (by omega)).trans (rupn (by omega)))
            · rw [if_neg (by omega)] at q; rw [if_neg e2]; exact q.fr ((rupn (by omega)).trans (rupn (by omega))) (fun b hb => (rupn (by omega)).trans (rupn (by omega)))
  refine g_aldn C d_Mod_lower_0 rfl ?_
  refine r_f10 C d_Mod_lower_1 hR ?_
  refine g_ldn C d_Mod_lower_4 rfl ?_
  refine r_ld9 C d_Mod_lower_5 hR (by omega) hE.1 ?_
  refine g_if_ne C 16 d_Mod_lower_6 (by decide) (by first | exact nI_toInt (by omega) | rfl) (fun b6 => ?_) (fun b6 => ?_)
  · have h1 := hne (by omega)
    exact loop h w R (Nat.le_refl _) hR FrW.rf hE hH (fun l l1 l6 => if e : l ≤ h then by rw [if_pos e]; exact hQ l l1 l6 else by rw [if_neg e, ← hab l (by omega)]; exact hQ l l1 l6) (by rw [if_neg (by omega)]) (fun _ => by omega)
  · have h1 := hz (by omega)
    refine g_aldn C d_Mod_lower_9 rfl ?_
    refine r_f11 C d_Mod_lower_10 hR ?_
    refine g_ldn C d_Mod_lower_13 rfl ?_
    refine g_iconst (v := nI 0) C d_Mod_lower_14 rfl ?_
    refine r_st10 C d_Mod_lower_15 hR (by omega) (fun w hR => ?_)
    exact loop 0 _ _ (by omega) hR (FrW.rf.up (by unfold WA; omega)) ⟨(rupn (by omega)).trans hE.1, hE.2.1, fun q hq => (rupn (by omega)).trans (hE.2.2 q hq)⟩ rups (fun l l1 l6 => by rw [if_neg (by omega), ← h1 l]; exact (hQ l l1 l6).fr (rupn (by omega)) (fun b hb => rupn (by omega))) (by rw [if_pos (by omega)]; rfl) (fun z => by omega)
set_option maxRecDepth 100000 in
set_option maxHeartbeats 4000000 in
theorem c_Mod_cut (N : gN) (w0 w : gW) (m : Nat) (R : RA) (md a f e : Nat) (T : Tr) (ha : a < 3) (hfe : f ≤ e) (he : e ≤ T.1.length) (hw : wfT 4 T) (hR : RefW w0 w m R md) (hW : WkR R a T) : CtN N y_Mod_cut b_Mod_cut 10 none (rmm 2 43 0 0) [.ref m, .int (nI a), .int (nI f), .int (nI e)] w (pV (fun w' => ∃ R', RefW w0 w' m R' md ∧ WkR R' a (cutT T f e) ∧ FrW a R R')) 0 0 := by
  refine ct_intro N [some (.ref m), some (.int (nI a)), some (.int (nI f)), some (.int (nI e)), none, none, none, none, none, none] (by decide) rfl (Nat.le_of_ble_eq_true rfl) (by simp [Value.category]) ?_
  intro X hX C Rr
  have h80 := hw.1
  have h4 := hw.2.1
  have r80 := wf_len hw
  have cR80 : ∀ l, 1 ≤ l → (cutR T.2.1 f e l).length ≤ 80 := fun l l1 => by rw [← lft_pos _ _ _ l1]; exact Nat.le_trans (pos_len _) (by rw [lft_len]; exact r80 l)
  have lb := fun l q => lft_bd hw (f := f) (e := e) (by omega) (by omega) l q
  have eLen : ((T.1.drop f).take (e - f)).length = e - f := by simp; omega
  have stG : ∀ i, i ≤ e → ∀ w1 R1, f ≤ i → RefW w0 w1 m R1 md → FrW a R R1 → R1 10 a = nI T.2.2 → (∀ l, 1 ≤ l → l ≤ 6 → WRow R1 a l (cutR T.2.1 f e l)) → (∀ q, q < i - f → R1 6 (80 * a + q) = gd 0 T.1 (f + q)) → (∀ q, i ≤ q → q < T.1.length → R1 6 (80 * a + q) = gd 0 T.1 q) → V X w1 0 0 [some (.ref m), some (.int (nI a)), some (.int (nI f)), some (.int (nI e)), none, some (.int (nI (i))), none, none, none, none] [] 344 := by
    refine upto _ (fun i hi ih w R1 fi hR hF hH hQ hb hc => ?_)
    refine g_ld C d_Mod_cut_344 rfl ?_
    refine g_ldn C d_Mod_cut_346 rfl ?_
    refine g_icmp_ge C 382 d_Mod_cut_347 (by decide) (by first | exact nI_toInt (by omega) | rfl) (by first | exact nI_toInt (by omega) | rfl) (fun b347 => ?_) (fun b347 => ?_)
    · have ie : i = e := by omega
      subst ie
      refine g_aldn C d_Mod_cut_382 rfl ?_
      refine r_f10 C d_Mod_cut_383 hR ?_
      refine g_ldn C d_Mod_cut_386 rfl ?_
      refine g_ldn C d_Mod_cut_387 rfl ?_
      refine g_ldn C d_Mod_cut_388 rfl ?_
      first | refine g_subN C d_Mod_cut_389 (by omega) ?_ | refine g_sub C d_Mod_cut_389 ?_
      refine r_st9 C d_Mod_cut_390 hR (by omega) (fun w hR => ?_)
      refine g_aldn C d_Mod_cut_391 rfl ?_
      refine g_ldn C d_Mod_cut_392 rfl ?_
      have hE : WE (rup R1 9 a (nI (i - f))) a ((T.1.drop f).take (i - f)) := ⟨by rw [eLen]; exact rups, by rw [eLen]; omega, fun q hq => by
        rw [eLen] at hq
        rw [rupn (by omega), hb q hq, gd_take hq, gd_drop]⟩
      refine g_callV (ci := kMod) C d_Mod_cut_393 cw_Mod_71 sl_Mod_lower (c_Mod_lower X.1 w0 w m (rup R1 9 a (nI (i - f))) md a ((T.1.drop f).take (i - f)) (cutR T.2.1 f i) T.2.2 ha (by omega) hR hE ((rupn (by omega)).trans hH) (fun l l1 l6 => (hQ l l1 l6).fr (rupn (by omega)) (fun b hb => rupn (by omega))) (fun l hl => cut_above hw f i hl) (fun z l => by rw [eLen] at z; exact (show f = i by omega) ▸ (cut_none T.2.1 f l).2) (fun z => ?_)) rfl hR.2.1 (As := [.int (nI a)]) rfl rfl rfl (Nat.le_of_ble_eq_true rfl) ⟨rfl, rfl, by decide, by decide⟩ ⟨by decide, by decide⟩ (kV (fun w2 h2 => ?_))
      · rw [eLen] at z
        have hh : 1 ≤ T.2.2 := Nat.one_le_iff_ne_zero.mpr (fun q => by have := hw.2.2.1.mp q; omega)
        refine ⟨hh, fun l l1 lh => ?_⟩
        have c1 := cutR_len hw (f := f) (e := i) (by omega) he l1 lh
        have c2 := (cutR_sum hw (f := f) (e := i) (by omega) he l1 lh).2
        exact ⟨c1.2, (c2 _ (gd_mem (by omega))).2⟩
      · obtain ⟨R2, hR, hW2, hF2⟩ := h2
        refine g_vret C Rr d_Mod_cut_396 (by decide) (by decide) ⟨rfl, R2, hR, ?_, (hF.up (by unfold WA; omega)).trans hF2⟩
        rw [eLen] at hW2
        exact hW2
    · refine g_aldn C d_Mod_cut_350 rfl ?_
      refine r_f7 C d_Mod_cut_351 hR ?_
      refine g_bipush (v := nI 80) C d_Mod_cut_354 (by decide) ?_
      refine g_ldn C d_Mod_cut_356 rfl ?_
      first | refine g_mulN C d_Mod_cut_357 ?_ | refine g_mul C d_Mod_cut_357 ?_
      refine g_ld C d_Mod_cut_358 rfl ?_
      first | refine g_addN C d_Mod_cut_360 ?_ | refine g_add C d_Mod_cut_360 ?_
      refine g_ldn C d_Mod_cut_361 rfl ?_
      first | refine g_subN C d_Mod_cut_362 (by omega) ?_ | refine g_sub C d_Mod_cut_362 ?_
      refine g_aldn C d_Mod_cut_363 rfl ?_
      refine r_f7 C d_Mod_cut_364 hR ?_
      refine g_bipush (v := nI 80) C d_Mod_cut_367 (by decide) ?_
      refine g_ldn C d_Mod_cut_369 rfl ?_
      first | refine g_mulN C d_Mod_cut_370 ?_ | refine g_mul C d_Mod_cut_370 ?_
      refine g_ld C d_Mod_cut_371 rfl ?_
      first | refine g_addN C d_Mod_cut_373 ?_ | refine g_add C d_Mod_cut_373 ?_
      refine r_ld6 C d_Mod_cut_374 hR (by omega) (hc i (by omega) (by omega)) ?_
      refine r_st6 C d_Mod_cut_375 hR (by omega) (fun w hR => ?_)
      refine g_incN C [_, _, _, _, _, _, _, _, _, _] d_Mod_cut_376 rfl rfl ?_
      refine g_goto C 344 d_Mod_cut_379 (by decide) ?_
      refine ih (i + 1) (by omega) (by omega) _ _ (by omega) hR (hF.up (by unfold WA; omega)) ((rupn (by omega)).trans hH) (fun l l1 l6 => (hQ l l1 l6).fr (rupn (by omega)) (fun b hb => rupn (by omega))) (fun q hq => ?_) (fun q q1 q2 => (rupn (by omega)).trans (hc q (by omega) q2))
      by_cases e1 : q = i - f
      · rw [show 80 * a + q = 80 * a + i - f by omega, rups, show f + q = i by omega]
      · rw [rupn (by omega)]; exact hb q (by omega)
  have stB : ∀ l, l ≤ T.2.2 + 1 → ∀ w1 R1, 1 ≤ l → RefW w0 w1 m R1 md → FrW a R R1 → WE R1 a T.1 → R1 10 a = nI T.2.2 → (∀ q, 1 ≤ q → q ≤ 6 → WRow R1 a q (if q < l then cutR T.2.1 f e q else T.2.1 q)) → (l ≤ T.2.2 → ∀ q, q < (T.2.1 l).length → R1 11 q = nI (gd 0 (lft T.2.1 f e l) q)) → V X w1 0 0 [some (.ref m), some (.int (nI a)), some (.int (nI f)), some (.int (nI e)), none, some (.int (nI (l))), none, none, none, none] [] 103 := by
    refine upto _ (fun l hl ih w R1 l1 hR hF hE hH hQ hL => ?_)
    refine g_ld C d_Mod_cut_103 rfl ?_
    refine g_aldn C d_Mod_cut_105 rfl ?_
    refine r_f11 C d_Mod_cut_106 hR ?_
    refine g_ldn C d_Mod_cut_109 rfl ?_
    refine r_ld10 C d_Mod_cut_110 hR (by omega) hH ?_
    refine g_icmp_gt C 341 d_Mod_cut_111 (by decide) (by first | exact nI_toInt (by omega) | rfl) (by first | exact nI_toInt (by omega) | rfl) (fun b111 => ?_) (fun b111 => ?_)
    · refine g_ldn C d_Mod_cut_341 rfl ?_
      refine g_st C [_, _, _, _, _, _, _, _, _, _] d_Mod_cut_342 (Nat.le_of_ble_eq_true rfl) rfl ?_
      refine stG f hfe w R1 (Nat.le_refl _) hR hF hH (fun q q1 q6 => ?_) (fun q hq => by omega) (fun q q1 q2 => hE.2.2 q q2)
      have qq := hQ q q1 q6
      by_cases e1 : q < l
      · rw [if_pos e1] at qq; exact qq
      · rw [if_neg e1, hw.2.2.2.1 q (by omega)] at qq; rw [cut_above hw f e (by omega)]; exact qq
    · have hlh : l ≤ T.2.2 := by omega
      have hL := hL hlh
      have rl := r80 l
      have rp := r80 (l + 1)
      have hPs : l < T.2.2 → (T.2.1 (l + 1)).sum = (T.2.1 l).length := fun z => by have := (hw.2.2.2.2.1 (l + 1) (by omega) (by omega)).2; rw [Nat.add_sub_cancel, cn_p T (by omega)] at this; exact this
      have hPe : ¬ l < T.2.2 → T.2.1 (l + 1) = [] := fun z => hw.2.2.2.1 (l + 1) (by omega)
      have hP4 : ∀ c, c < (T.2.1 (l + 1)).length → l < T.2.2 ∧ gd 0 (T.2.1 (l + 1)) c ≤ 4 := fun c hc => by
        have z : l < T.2.2 := Classical.byContradiction (fun z => by rw [hPe z] at hc; simp at hc)
        exact ⟨z, ((hw.2.2.2.2.1 (l + 1) (by omega) (by omega)).1 _ (gd_mem hc)).2⟩
      have qrow := hQ l l1 (by omega)
      rw [if_neg (by omega)] at qrow
      have lpF : ∀ c, c ≤ (T.2.1 (l + 1)).length → ∀ w1 R2, RefW w0 w1 m R2 md → FrW a R R2 → WE R2 a T.1 → R2 10 a = nI T.2.2 → (∀ q, 1 ≤ q → q ≤ 6 → WRow R2 a q (if q < l + 1 then cutR T.2.1 f e q else T.2.1 q)) → (∀ q, q < (T.2.1 (l + 1)).length → R2 12 q = nI (gd 0 (cnts (T.2.1 (l + 1)) (lft T.2.1 f e l)) q)) → (∀ q, q < c → R2 11 q = nI (gd 0 (cnts (T.2.1 (l + 1)) (lft T.2.1 f e l)) q)) → V X w1 0 0 [some (.ref m), some (.int (nI a)), some (.int (nI f)), some (.int (nI e)), none, some (.int (nI (l))), some (.int (nI ((T.2.1 (l + 1)).length))), none, none, some (.int (nI (c)))] [] 308 := by
        refine upto _ (fun c hc ihc w R2 hR hF hE hH hQ2 hM hL2 => ?_)
        refine g_ld C d_Mod_cut_308 rfl ?_
        refine g_ld C d_Mod_cut_310 rfl ?_
        refine g_icmp_ge C 335 d_Mod_cut_312 (by decide) (by first | exact nI_toInt (by omega) | rfl) (by first | exact nI_toInt (by omega) | rfl) (fun b312 => ?_) (fun b312 => ?_)
        · refine g_incN C [_, _, _, _, _, _, _, _, _, _] d_Mod_cut_335 rfl rfl ?_
          refine g_goto C 103 d_Mod_cut_338 (by decide) ?_
          refine V.le (lvle.keep (lvle.keep (lvle.keep (lvle.keep (lvle.drop (lvle.keep (lvle.drop (lvle.drop (lvle.drop (lvle.drop lvle.nil)))))))))) ?_
          refine ih (l + 1) (by omega) (by omega) w R2 (by omega) hR hF hE hH hQ2 (fun z q hq => ?_)
          rw [← lft_up hw hfe he l1 (by omega)]
          exact hL2 q (by omega)
        · refine g_aldn C d_Mod_cut_315 rfl ?_
          refine r_f12 C d_Mod_cut_316 hR ?_
          refine g_ld C d_Mod_cut_319 rfl ?_
          refine g_aldn C d_Mod_cut_321 rfl ?_
          refine r_f13 C d_Mod_cut_322 hR ?_
          refine g_ld C d_Mod_cut_325 rfl ?_
          refine r_ld12 C d_Mod_cut_327 hR (by omega) (hM c (by omega)) ?_
          refine r_st11 C d_Mod_cut_328 hR (by omega) (fun w hR => ?_)
          refine g_incN C [_, _, _, _, _, _, _, _, _, _] d_Mod_cut_329 rfl rfl ?_
          refine g_goto C 308 d_Mod_cut_332 (by decide) ?_
          refine ihc (c + 1) (by omega) (by omega) _ _ hR (hF.up (by unfold WA; omega)) ⟨(rupn (by omega)).trans hE.1, hE.2.1, fun q hq => (rupn (by omega)).trans (hE.2.2 q hq)⟩ ((rupn (by omega)).trans hH) (fun q q1 q6 => (hQ2 q q1 q6).fr (rupn (by omega)) (fun b hb => rupn (by omega))) (fun q hq => (rupn (by omega)).trans (hM q hq)) (fun q hq => ?_)
          by_cases e1 : q = c
          · rw [e1]; exact rups
          · exact (rupn (by omega)).trans (hL2 q (by omega))
      have lpE : ∀ c, c ≤ (T.2.1 l).length → ∀ w1 R2, RefW w0 w1 m R2 md → FrW a R R2 → WE R2 a T.1 → R2 10 a = nI T.2.2 → (∀ q, 1 ≤ q → q ≤ 6 → q ≠ l → WRow R2 a q (if q < l then cutR T.2.1 f e q else T.2.1 q)) → R2 8 (8 * a + l) = nI (T.2.1 l).length → (∀ q, q < (T.2.1 l).length → R2 11 q = nI (gd 0 (lft T.2.1 f e l) q)) → (∀ q, q < (T.2.1 (l + 1)).length → R2 12 q = nI (gd 0 (cnts (T.2.1 (l + 1)) (lft T.2.1 f e l)) q)) → (∀ q, q < (pos ((lft T.2.1 f e l).take c)).length → R2 7 (480 * a + 80 * (l - 1) + q) = nI (gd 0 (pos ((lft T.2.1 f e l).take c)) q)) → V X w1 0 0 [some (.ref m), some (.int (nI a)), some (.int (nI f)), some (.int (nI e)), none, some (.int (nI (l))), some (.int (nI ((T.2.1 (l + 1)).length))), none, some (.int (nI ((pos ((lft T.2.1 f e l).take c)).length))), some (.int (nI (c)))] [] 235 := by
        refine upto _ (fun c hc ihc w R2 hR hF hE hH hQ2 h8 hL2 hM h7 => ?_)
        have pc := pos_le (lft T.2.1 f e l) c
        refine g_ld C d_Mod_cut_235 rfl ?_
        refine g_aldn C d_Mod_cut_237 rfl ?_
        refine r_f9 C d_Mod_cut_238 hR ?_
        refine g_bipush (v := nI 8) C d_Mod_cut_241 (by decide) ?_
        refine g_ldn C d_Mod_cut_243 rfl ?_
        first | refine g_mulN C d_Mod_cut_244 ?_ | refine g_mul C d_Mod_cut_244 ?_
        refine g_ld C d_Mod_cut_245 rfl ?_
        first | refine g_addN C d_Mod_cut_247 ?_ | refine g_add C d_Mod_cut_247 ?_
        refine r_ld8 C d_Mod_cut_248 hR (by omega) h8 ?_
        refine g_icmp_ge C 291 d_Mod_cut_249 (by decide) (by first | exact nI_toInt (by omega) | rfl) (by first | exact nI_toInt (by omega) | rfl) (fun b249 => ?_) (fun b249 => ?_)
        · have ec : (lft T.2.1 f e l).take c = (lft T.2.1 f e l) := List.take_of_length_le (by rw [lft_len]; omega)
          rw [ec, lft_pos _ _ _ l1] at h7 pc ⊢
          refine g_aldn C d_Mod_cut_291 rfl ?_
          refine r_f9 C d_Mod_cut_292 hR ?_
          refine g_bipush (v := nI 8) C d_Mod_cut_295 (by decide) ?_
          refine g_ldn C d_Mod_cut_297 rfl ?_
          first | refine g_mulN C d_Mod_cut_298 ?_ | refine g_mul C d_Mod_cut_298 ?_
          refine g_ld C d_Mod_cut_299 rfl ?_
          first | refine g_addN C d_Mod_cut_301 ?_ | refine g_add C d_Mod_cut_301 ?_
          refine g_ld C d_Mod_cut_302 rfl ?_
          refine r_st8 C d_Mod_cut_304 hR (by omega) (fun w hR => ?_)
          refine g_iconst (v := nI 0) C d_Mod_cut_305 rfl ?_
          refine g_st C [_, _, _, _, _, _, _, _, _, _] d_Mod_cut_306 (Nat.le_of_ble_eq_true rfl) rfl ?_
          refine V.le (lvle.keep (lvle.keep (lvle.keep (lvle.keep (lvle.drop (lvle.keep (lvle.keep (lvle.drop (lvle.drop (lvle.keep lvle.nil)))))))))) ?_
          refine lpF 0 (by omega) _ _ hR (hF.up (by unfold WA; omega)) ⟨(rupn (by omega)).trans hE.1, hE.2.1, fun q hq => (rupn (by omega)).trans (hE.2.2 q hq)⟩ ((rupn (by omega)).trans hH) (fun q q1 q6 => ?_) (fun q hq => (rupn (by omega)).trans (hM q hq)) (fun q hq => by omega)
          by_cases e1 : q = l
          · rw [e1, if_pos (by omega)]; exact ⟨rups, cR80 l l1, fun b hb => (rupn (by omega)).trans (h7 b hb)⟩
          · have qq := (hQ2 q q1 q6 e1).fr (R' := rup R2 8 (8 * a + l) (nI (cutR T.2.1 f e l).length)) (rupn (by omega)) (fun b hb => rupn (by omega))
            by_cases e2 : q < l
            · rw [if_pos e2] at qq; rw [if_pos (by omega)]; exact qq
            · rw [if_neg e2] at qq; rw [if_neg (by omega)]; exact qq
        · have lc := lb l c
          have pt := pos_take (lft T.2.1 f e l) c (by rw [lft_len]; omega)
          refine g_aldn C d_Mod_cut_252 rfl ?_
          refine r_f12 C d_Mod_cut_253 hR ?_
          refine g_ld C d_Mod_cut_256 rfl ?_
          refine r_ld11 C d_Mod_cut_258 hR (by omega) (hL2 c (by omega)) ?_
          refine g_if_le C 285 d_Mod_cut_259 (by decide) (by first | exact nI_toInt (by omega) | rfl) (fun b259 => ?_) (fun b259 => ?_)
          · rw [if_neg (by omega), List.append_nil] at pt
            refine g_incN C [_, _, _, _, _, _, _, _, _, _] d_Mod_cut_285 rfl rfl ?_
            refine g_goto C 235 d_Mod_cut_288 (by decide) ?_
            rw [← pt]
            exact ihc (c + 1) (by omega) (by omega) w R2 hR hF hE hH hQ2 h8 hL2 hM (by rw [pt]; exact h7)
          · rw [if_pos (by omega)] at pt
            have pl : (pos ((lft T.2.1 f e l).take (c + 1))).length = (pos ((lft T.2.1 f e l).take c)).length + 1 := by rw [pt]; simp
            refine g_aldn C d_Mod_cut_262 rfl ?_
            refine r_f8 C d_Mod_cut_263 hR ?_
            refine g_ldn C d_Mod_cut_266 rfl ?_
            refine g_ld C d_Mod_cut_267 rfl ?_
            refine g_ld C d_Mod_cut_269 rfl ?_
            refine r_cell C d_Mod_cut_271 (by omega) rfl (Nat.le_of_ble_eq_true rfl) (by decide) (by decide) (by decide) (by decide) ?_
            refine g_aldn C d_Mod_cut_274 rfl ?_
            refine r_f12 C d_Mod_cut_275 hR ?_
            refine g_ld C d_Mod_cut_278 rfl ?_
            refine r_ld11 C d_Mod_cut_280 hR (by omega) (hL2 c (by omega)) ?_
            refine r_st7 C d_Mod_cut_281 hR (by omega) (fun w hR => ?_)
            refine g_incN C [_, _, _, _, _, _, _, _, _, _] d_Mod_cut_282 rfl rfl ?_
            refine g_incN C [_, _, _, _, _, _, _, _, _, _] d_Mod_cut_285 rfl rfl ?_
            refine g_goto C 235 d_Mod_cut_288 (by decide) ?_
            rw [← pl]
            refine ihc (c + 1) (by omega) (by omega) _ _ hR (hF.up (by unfold WA; omega)) ⟨(rupn (by omega)).trans hE.1, hE.2.1, fun q hq => (rupn (by omega)).trans (hE.2.2 q hq)⟩ ((rupn (by omega)).trans hH) (fun q q1 q6 hne => (hQ2 q q1 q6 hne).fr (rupn (by omega)) (fun b hb => rupn (by omega))) ((rupn (by omega)).trans h8) (fun q hq => (rupn (by omega)).trans (hL2 q hq)) (fun q hq => (rupn (by omega)).trans (hM q hq)) (fun q hq => ?_)
            rw [pl] at hq
            by_cases e1 : q = (pos ((lft T.2.1 f e l).take c)).length
            · rw [e1, rups, pt, gd_r (Nat.le_refl _), Nat.sub_self, gd_0]
            · rw [rupn (by omega), h7 q (by omega), pt, gd_l (by omega)]
      have lpC : ∀ c, c ≤ (T.2.1 (l + 1)).length → ∀ w1 R2, RefW w0 w1 m R2 md → FrW a R R2 → WE R2 a T.1 → R2 10 a = nI T.2.2 → (∀ q, 1 ≤ q → q ≤ 6 → WRow R2 a q (if q < l then cutR T.2.1 f e q else T.2.1 q)) → (∀ q, q < (T.2.1 l).length → R2 11 q = nI (gd 0 (lft T.2.1 f e l) q)) → (∀ q, q < c → R2 12 q = nI (gd 0 (cnts (T.2.1 (l + 1)) (lft T.2.1 f e l)) q)) → V X w1 0 0 [some (.ref m), some (.int (nI a)), some (.int (nI f)), some (.int (nI e)), none, some (.int (nI (l))), some (.int (nI ((T.2.1 (l + 1)).length))), some (.int (nI (ps (T.2.1 (l + 1)) c))), some (.int (nI (c))), none] [] 151 := by
        refine upto _ (fun c hc ihc w R2 hR hF hE hH hQ2 hL2 hM => ?_)
        refine g_ld C d_Mod_cut_151 rfl ?_
        refine g_ld C d_Mod_cut_153 rfl ?_
        refine g_icmp_ge C 229 d_Mod_cut_155 (by decide) (by first | exact nI_toInt (by omega) | rfl) (by first | exact nI_toInt (by omega) | rfl) (fun b155 => ?_) (fun b155 => ?_)
        · refine g_iconst (v := nI 0) C d_Mod_cut_229 rfl ?_
          refine g_st C [_, _, _, _, _, _, _, _, _, _] d_Mod_cut_230 (Nat.le_of_ble_eq_true rfl) rfl ?_
          refine g_iconst (v := nI 0) C d_Mod_cut_232 rfl ?_
          refine g_st C [_, _, _, _, _, _, _, _, _, _] d_Mod_cut_233 (Nat.le_of_ble_eq_true rfl) rfl ?_
          refine V.le (lvle.keep (lvle.keep (lvle.keep (lvle.keep (lvle.drop (lvle.keep (lvle.keep (lvle.drop (lvle.keep (lvle.keep lvle.nil)))))))))) ?_
          have qr := hQ2 l l1 (by omega)
          rw [if_neg (by omega)] at qr
          exact lpE 0 (by omega) w R2 hR hF hE hH (fun q q1 q6 _ => hQ2 q q1 q6) qr.1 hL2 (fun q hq => hM q (by omega)) (fun q hq => by rw [List.take_zero] at hq; simp [pos] at hq)
        · obtain ⟨hlt, g4⟩ := hP4 c (by omega)
          have hsum := hPs hlt
          have pss := ps_s (T.2.1 (l + 1)) c
          have psl := ps_le_sum (T.2.1 (l + 1)) (c + 1)
          have lpD : ∀ b, b ≤ gd 0 (T.2.1 (l + 1)) c → ∀ w1 R2, RefW w0 w1 m R2 md → FrW a R R2 → WE R2 a T.1 → R2 10 a = nI T.2.2 → (∀ q, 1 ≤ q → q ≤ 6 → WRow R2 a q (if q < l then cutR T.2.1 f e q else T.2.1 q)) → (∀ q, q < (T.2.1 l).length → R2 11 q = nI (gd 0 (lft T.2.1 f e l) q)) → (∀ q, q < c → R2 12 q = nI (gd 0 (cnts (T.2.1 (l + 1)) (lft T.2.1 f e l)) q)) → R2 12 c = nI (pos (((lft T.2.1 f e l).drop (ps (T.2.1 (l + 1)) c)).take b)).length → V X w1 0 0 [some (.ref m), some (.int (nI a)), some (.int (nI f)), some (.int (nI e)), none, some (.int (nI (l))), some (.int (nI ((T.2.1 (l + 1)).length))), some (.int (nI (ps (T.2.1 (l + 1)) c + b))), some (.int (nI (c))), some (.int (nI (b)))] [] 169 := by
            refine upto _ (fun b hb ihb w R2 hR hF hE hH hQ2 hL2 hM hMc => ?_)
            have qp := hQ2 (l + 1) (by omega) (by omega)
            rw [if_neg (by omega)] at qp
            refine g_ld C d_Mod_cut_169 rfl ?_
            refine g_aldn C d_Mod_cut_171 rfl ?_
            refine r_f8 C d_Mod_cut_172 hR ?_
            refine g_ldn C d_Mod_cut_175 rfl ?_
            refine g_ld C d_Mod_cut_176 rfl ?_
            refine g_iconst (v := nI 1) C d_Mod_cut_178 rfl ?_
            first | refine g_addN C d_Mod_cut_179 ?_ | refine g_add C d_Mod_cut_179 ?_
            refine g_ld C d_Mod_cut_180 rfl ?_
            refine r_cell C d_Mod_cut_182 (by omega) rfl (Nat.le_of_ble_eq_true rfl) (by decide) (by decide) (by decide) (by decide) ?_
            refine r_ld7 C d_Mod_cut_185 hR (by omega) (qp.2.2 c (by omega)) ?_
            refine g_icmp_ge C 223 d_Mod_cut_186 (by decide) (by first | exact nI_toInt (by omega) | rfl) (by first | exact nI_toInt (by omega) | rfl) (fun b186 => ?_) (fun b186 => ?_)
            · have eb : b = gd 0 (T.2.1 (l + 1)) c := by omega
              subst eb
              refine g_incN C [_, _, _, _, _, _, _, _, _, _] d_Mod_cut_223 rfl rfl ?_
              refine g_goto C 151 d_Mod_cut_226 (by decide) ?_
              rw [← pss]
              refine V.le (lvle.keep (lvle.keep (lvle.keep (lvle.keep (lvle.drop (lvle.keep (lvle.keep (lvle.keep (lvle.keep (lvle.drop lvle.nil)))))))))) ?_
              refine ihc (c + 1) (by omega) (by omega) w R2 hR hF hE hH hQ2 hL2 (fun q hq => ?_)
              by_cases e1 : q = c
              · rw [e1, cnts_gd _ _ _ (by omega)]; exact hMc
              · exact hM q (by omega)
            · have st := pos_step (lft T.2.1 f e l) (ps (T.2.1 (l + 1)) c) b (by rw [lft_len]; omega)
              have lc := lb l (ps (T.2.1 (l + 1)) c + b)
              have bd : (pos (((lft T.2.1 f e l).drop (ps (T.2.1 (l + 1)) c)).take b)).length ≤ b := Nat.le_trans (pos_len _) (by simp; omega)
              have body : ∀ z, z = (if 0 < gd 0 (lft T.2.1 f e l) (ps (T.2.1 (l + 1)) c + b) then 1 else 0) → V X w 0 0 [some (.ref m), some (.int (nI a)), some (.int (nI f)), some (.int (nI e)), none, some (.int (nI (l))), some (.int (nI ((T.2.1 (l + 1)).length))), some (.int (nI (ps (T.2.1 (l + 1)) c + b))), some (.int (nI (c))), some (.int (nI (b)))] [.int (nI z), .int (nI (pos (((lft T.2.1 f e l).drop (ps (T.2.1 (l + 1)) c)).take b)).length), .int (nI c), .ref (m + 13)] 212 := by
                intro z hz
                rw [← hz] at st
                first | refine g_addN C d_Mod_cut_212 ?_ | refine g_add C d_Mod_cut_212 ?_
                rw [← st]
                refine r_st12 C d_Mod_cut_213 hR (by omega) (fun w hR => ?_)
                refine g_incN C [_, _, _, _, _, _, _, _, _, _] d_Mod_cut_214 rfl rfl ?_
                refine g_incN C [_, _, _, _, _, _, _, _, _, _] d_Mod_cut_217 rfl rfl ?_
                refine g_goto C 169 d_Mod_cut_220 (by decide) ?_
                rw [show ps (T.2.1 (l + 1)) c + b + 1 = ps (T.2.1 (l + 1)) c + (b + 1) by omega]
                exact ihb (b + 1) (by omega) (by omega) _ _ hR (hF.up (by unfold WA; omega)) ⟨(rupn (by omega)).trans hE.1, hE.2.1, fun q hq => (rupn (by omega)).trans (hE.2.2 q hq)⟩ ((rupn (by omega)).trans hH) (fun q q1 q6 => (hQ2 q q1 q6).fr (rupn (by omega)) (fun b hb => rupn (by omega))) (fun q hq => (rupn (by omega)).trans (hL2 q hq)) (fun q hq => (rupn (by omega)).trans (hM q hq)) rups
              refine g_aldn C d_Mod_cut_189 rfl ?_
              refine r_f13 C d_Mod_cut_190 hR ?_
              refine g_ld C d_Mod_cut_193 rfl ?_
              refine g_dup2 C d_Mod_cut_195 rfl rfl ?_
              refine r_ld12 C d_Mod_cut_196 hR (by omega) hMc ?_
              refine g_aldn C d_Mod_cut_197 rfl ?_
              refine r_f12 C d_Mod_cut_198 hR ?_
              refine g_ld C d_Mod_cut_201 rfl ?_
              refine r_ld11 C d_Mod_cut_203 hR (by omega) (hL2 (ps (T.2.1 (l + 1)) c + b) (by omega)) ?_
              refine g_if_le C 211 d_Mod_cut_204 (by decide) (by first | exact nI_toInt (by omega) | rfl) (fun b204 => ?_) (fun b204 => ?_)
              · refine g_iconst (v := nI 0) C d_Mod_cut_211 rfl ?_
                exact body 0 (by rw [if_neg (by omega)])
              · refine g_iconst (v := nI 1) C d_Mod_cut_207 rfl ?_
                refine g_goto C 212 d_Mod_cut_208 (by decide) ?_
                exact body 1 (by rw [if_pos (by omega)])
          refine g_aldn C d_Mod_cut_158 rfl ?_
          refine r_f13 C d_Mod_cut_159 hR ?_
          refine g_ld C d_Mod_cut_162 rfl ?_
          refine g_iconst (v := nI 0) C d_Mod_cut_164 rfl ?_
          refine r_st12 C d_Mod_cut_165 hR (by omega) (fun w hR => ?_)
          refine g_iconst (v := nI 0) C d_Mod_cut_166 rfl ?_
          refine g_st C [_, _, _, _, _, _, _, _, _, _] d_Mod_cut_167 (Nat.le_of_ble_eq_true rfl) rfl ?_
          exact lpD 0 (by omega) _ _ hR (hF.up (by unfold WA; omega)) ⟨(rupn (by omega)).trans hE.1, hE.2.1, fun q hq => (rupn (by omega)).trans (hE.2.2 q hq)⟩ ((rupn (by omega)).trans hH) (fun q q1 q6 => (hQ2 q q1 q6).fr (rupn (by omega)) (fun b hb => rupn (by omega))) (fun q hq => (rupn (by omega)).trans (hL2 q hq)) (fun q hq => (rupn (by omega)).trans (hM q hq)) (rups.trans (by rw [List.take_zero]; rfl))
      have body : V X w 0 0 [some (.ref m), some (.int (nI a)), some (.int (nI f)), some (.int (nI e)), none, some (.int (nI (l))), none, none, none, none] [.int (nI (T.2.1 (l + 1)).length)] 143 := by
        refine g_st C [_, _, _, _, _, _, _, _, _, _] d_Mod_cut_143 (Nat.le_of_ble_eq_true rfl) rfl ?_
        refine g_iconst (v := nI 0) C d_Mod_cut_145 rfl ?_
        refine g_st C [_, _, _, _, _, _, _, _, _, _] d_Mod_cut_146 (Nat.le_of_ble_eq_true rfl) rfl ?_
        refine g_iconst (v := nI 0) C d_Mod_cut_148 rfl ?_
        refine g_st C [_, _, _, _, _, _, _, _, _, _] d_Mod_cut_149 (Nat.le_of_ble_eq_true rfl) rfl ?_
        exact lpC 0 (by omega) w R1 hR hF hE hH hQ hL (fun q hq => by omega)
      refine g_ld C d_Mod_cut_114 rfl ?_
      refine g_aldn C d_Mod_cut_116 rfl ?_
      refine r_f11 C d_Mod_cut_117 hR ?_
      refine g_ldn C d_Mod_cut_120 rfl ?_
      refine r_ld10 C d_Mod_cut_121 hR (by omega) hH ?_
      refine g_icmp_ge C 142 d_Mod_cut_122 (by decide) (by first | exact nI_toInt (by omega) | rfl) (by first | exact nI_toInt (by omega) | rfl) (fun b122 => ?_) (fun b122 => ?_)
      · refine g_iconst (v := nI 0) C d_Mod_cut_142 rfl ?_
        rw [hPe (by omega)] at body
        exact body
      · have qp := hQ (l + 1) (by omega) (by omega)
        rw [if_neg (by omega)] at qp
        refine g_aldn C d_Mod_cut_125 rfl ?_
        refine r_f9 C d_Mod_cut_126 hR ?_
        refine g_bipush (v := nI 8) C d_Mod_cut_129 (by decide) ?_
        refine g_ldn C d_Mod_cut_131 rfl ?_
        first | refine g_mulN C d_Mod_cut_132 ?_ | refine g_mul C d_Mod_cut_132 ?_
        refine g_ld C d_Mod_cut_133 rfl ?_
        first | refine g_addN C d_Mod_cut_135 ?_ | refine g_add C d_Mod_cut_135 ?_
        refine g_iconst (v := nI 1) C d_Mod_cut_136 rfl ?_
        first | refine g_addN C d_Mod_cut_137 ?_ | refine g_add C d_Mod_cut_137 ?_
        refine r_ld8 C d_Mod_cut_138 hR (by omega) qp.1 ?_
        refine g_goto C 143 d_Mod_cut_139 (by decide) ?_
        exact body
  have hr1 := hW.2.2 1 (by omega) (by omega)
  have r1 := r80 1
  have hp4 : ∀ c, c < (T.2.1 1).length → ps (T.2.1 1) c ≤ 80 ∧ ps (T.2.1 1) (c + 1) ≤ 80 := fun c hc => by
    have z : 1 ≤ T.2.2 := Classical.byContradiction (fun z => by rw [hw.2.2.2.1 1 (by omega)] at hc; simp at hc)
    have s := (hw.2.2.2.2.1 1 (by omega) z).2
    rw [show cn T (1 - 1) = T.1.length from rfl] at s
    have := ps_le_sum (T.2.1 1) c
    have := ps_le_sum (T.2.1 1) (c + 1)
    omega
  have stA : ∀ c, c ≤ (T.2.1 1).length → ∀ w1 R1, RefW w0 w1 m R1 md → (∀ k j, ¬ k = 11 → R1 k j = R k j) → (∀ q, q < c → R1 11 q = nI (gd 0 (lft T.2.1 f e 1) q)) → V X w1 0 0 [some (.ref m), some (.int (nI a)), some (.int (nI f)), some (.int (nI e)), some (.int (nI (ps (T.2.1 1) c))), some (.int (nI (c))), none, none, none, none] [] 6 := by
    refine upto _ (fun c hc ih w R1 hR hF hL => ?_)
    refine g_ld C d_Mod_cut_6 rfl ?_
    refine g_aldn C d_Mod_cut_8 rfl ?_
    refine r_f9 C d_Mod_cut_9 hR ?_
    refine g_bipush (v := nI 8) C d_Mod_cut_12 (by decide) ?_
    refine g_ldn C d_Mod_cut_14 rfl ?_
    first | refine g_mulN C d_Mod_cut_15 ?_ | refine g_mul C d_Mod_cut_15 ?_
    refine g_iconst (v := nI 1) C d_Mod_cut_16 rfl ?_
    first | refine g_addN C d_Mod_cut_17 ?_ | refine g_add C d_Mod_cut_17 ?_
    refine r_ld8 C d_Mod_cut_18 hR (by omega) ((hF _ _ (by omega)).trans hr1.1) ?_
    refine g_icmp_ge C 100 d_Mod_cut_19 (by decide) (by first | exact nI_toInt (by omega) | rfl) (by first | exact nI_toInt (by omega) | rfl) (fun b19 => ?_) (fun b19 => ?_)
    · refine g_iconst (v := nI 1) C d_Mod_cut_100 rfl ?_
      refine g_st C [_, _, _, _, _, _, _, _, _, _] d_Mod_cut_101 (Nat.le_of_ble_eq_true rfl) rfl ?_
      refine V.le (lvle.keep (lvle.keep (lvle.keep (lvle.keep (lvle.drop (lvle.keep (lvle.drop (lvle.drop (lvle.drop (lvle.drop lvle.nil)))))))))) ?_
      refine stB 1 (by omega) w R1 (Nat.le_refl _) hR (fun k j hn => hF k j (fun z => hn (by unfold WA; omega))) ⟨(hF _ _ (by omega)).trans hW.1.1, hW.1.2.1, fun q hq => (hF _ _ (by omega)).trans (hW.1.2.2 q hq)⟩ ((hF _ _ (by omega)).trans hW.2.1) (fun q q1 q6 => ?_) (fun _ q hq => hL q (by omega))
      rw [if_neg (by omega)]; exact (hW.2.2 q q1 q6).fr (hF _ _ (by omega)) (fun b hb => hF _ _ (by omega))
    · have hp := hp4 c (by omega)
      have pss := ps_s (T.2.1 1) c
      have hg := ovs_gd f e 0 (T.2.1 1) c (by omega)
      rw [Nat.zero_add, Nat.zero_add] at hg
      have b89 : V X w 0 0 [some (.ref m), some (.int (nI a)), some (.int (nI f)), some (.int (nI e)), some (.int (nI (ps (T.2.1 1) c))), some (.int (nI (c))), some (.int (nI (ps (T.2.1 1) (c + 1)))), some (.int (nI (max (ps (T.2.1 1) c) f))), some (.int (nI (min (ps (T.2.1 1) (c + 1)) e))), none] [.int (nI (min (ps (T.2.1 1) (c + 1)) e - max (ps (T.2.1 1) c) f)), .int (nI c), .ref (m + 12)] 89 := by
        refine r_st11 C d_Mod_cut_89 hR (by omega) (fun w hR => ?_)
        refine g_ld C d_Mod_cut_90 rfl ?_
        refine g_st C [_, _, _, _, _, _, _, _, _, _] d_Mod_cut_92 (Nat.le_of_ble_eq_true rfl) rfl ?_
        refine g_incN C [_, _, _, _, _, _, _, _, _, _] d_Mod_cut_94 rfl rfl ?_
        refine g_goto C 6 d_Mod_cut_97 (by decide) ?_
        refine V.le (lvle.keep (lvle.keep (lvle.keep (lvle.keep (lvle.keep (lvle.keep (lvle.drop (lvle.drop (lvle.drop (lvle.drop lvle.nil)))))))))) ?_
        refine ih (c + 1) (by omega) (by omega) _ _ hR (fun k j hk => (rupn (by omega)).trans (hF k j hk)) (fun q hq => ?_)
        by_cases e1 : q = c
        · rw [e1, rups]; exact congrArg nI hg.symm
        · exact (rupn (by omega)).trans (hL q (by omega))
      have b65 : V X w 0 0 [some (.ref m), some (.int (nI a)), some (.int (nI f)), some (.int (nI e)), some (.int (nI (ps (T.2.1 1) c))), some (.int (nI (c))), some (.int (nI (ps (T.2.1 1) (c + 1)))), some (.int (nI (max (ps (T.2.1 1) c) f))), none, none] [.int (nI (min (ps (T.2.1 1) (c + 1)) e))] 65 := by
        refine g_st C [_, _, _, _, _, _, _, _, _, _] d_Mod_cut_65 (Nat.le_of_ble_eq_true rfl) rfl ?_
        refine g_aldn C d_Mod_cut_67 rfl ?_
        refine r_f12 C d_Mod_cut_68 hR ?_
        refine g_ld C d_Mod_cut_71 rfl ?_
        refine g_ld C d_Mod_cut_73 rfl ?_
        refine g_ld C d_Mod_cut_75 rfl ?_
        refine g_icmp_le C 88 d_Mod_cut_77 (by decide) (by first | exact nI_toInt (by omega) | rfl) (by first | exact nI_toInt (by omega) | rfl) (fun b77 => ?_) (fun b77 => ?_)
        · refine g_iconst (v := nI 0) C d_Mod_cut_88 rfl ?_
          rw [show min (ps (T.2.1 1) (c + 1)) e - max (ps (T.2.1 1) c) f = 0 by omega] at b89
          exact b89
        · refine g_ld C d_Mod_cut_80 rfl ?_
          refine g_ld C d_Mod_cut_82 rfl ?_
          first | refine g_subN C d_Mod_cut_84 (by omega) ?_ | refine g_sub C d_Mod_cut_84 ?_
          refine g_goto C 89 d_Mod_cut_85 (by decide) ?_
          exact b89
      have b51 : V X w 0 0 [some (.ref m), some (.int (nI a)), some (.int (nI f)), some (.int (nI e)), some (.int (nI (ps (T.2.1 1) c))), some (.int (nI (c))), some (.int (nI (ps (T.2.1 1) (c + 1)))), none, none, none] [.int (nI (max (ps (T.2.1 1) c) f))] 51 := by
        refine g_st C [_, _, _, _, _, _, _, _, _, _] d_Mod_cut_51 (Nat.le_of_ble_eq_true rfl) rfl ?_
        refine g_ld C d_Mod_cut_53 rfl ?_
        refine g_ldn C d_Mod_cut_55 rfl ?_
        refine g_icmp_ge C 64 d_Mod_cut_56 (by decide) (by first | exact nI_toInt (by omega) | rfl) (by first | exact nI_toInt (by omega) | rfl) (fun b56 => ?_) (fun b56 => ?_)
        · refine g_ldn C d_Mod_cut_64 rfl ?_
          rw [show min (ps (T.2.1 1) (c + 1)) e = e by omega] at b65
          exact b65
        · refine g_ld C d_Mod_cut_59 rfl ?_
          refine g_goto C 65 d_Mod_cut_61 (by decide) ?_
          rw [show min (ps (T.2.1 1) (c + 1)) e = ps (T.2.1 1) (c + 1) by omega] at b65
          exact b65
      refine g_ld C d_Mod_cut_22 rfl ?_
      refine g_aldn C d_Mod_cut_24 rfl ?_
      refine r_f8 C d_Mod_cut_25 hR ?_
      refine g_ldn C d_Mod_cut_28 rfl ?_
      refine g_iconst (v := nI 1) C d_Mod_cut_29 rfl ?_
      refine g_ld C d_Mod_cut_30 rfl ?_
      refine r_cell C d_Mod_cut_32 (by omega) rfl (Nat.le_of_ble_eq_true rfl) (by decide) (by decide) (by decide) (by decide) ?_
      refine r_ld7 C d_Mod_cut_35 hR (by omega) ((hF _ _ (by omega)).trans (hr1.2.2 c (by omega))) ?_
      first | refine g_addN C d_Mod_cut_36 ?_ | refine g_add C d_Mod_cut_36 ?_
      rw [← pss]
      refine g_st C [_, _, _, _, _, _, _, _, _, _] d_Mod_cut_37 (Nat.le_of_ble_eq_true rfl) rfl ?_
      refine g_ld C d_Mod_cut_39 rfl ?_
      refine g_ldn C d_Mod_cut_41 rfl ?_
      refine g_icmp_le C 50 d_Mod_cut_42 (by decide) (by first | exact nI_toInt (by omega) | rfl) (by first | exact nI_toInt (by omega) | rfl) (fun b42 => ?_) (fun b42 => ?_)
      · refine g_ldn C d_Mod_cut_50 rfl ?_
        rw [show max (ps (T.2.1 1) c) f = f by omega] at b51
        exact b51
      · refine g_ld C d_Mod_cut_45 rfl ?_
        refine g_goto C 51 d_Mod_cut_47 (by decide) ?_
        rw [show max (ps (T.2.1 1) c) f = ps (T.2.1 1) c by omega] at b51
        exact b51
  refine g_iconst (v := nI 0) C d_Mod_cut_0 rfl ?_
  refine g_st C [_, _, _, _, _, _, _, _, _, _] d_Mod_cut_1 (Nat.le_of_ble_eq_true rfl) rfl ?_
  refine g_iconst (v := nI 0) C d_Mod_cut_3 rfl ?_
  refine g_st C [_, _, _, _, _, _, _, _, _, _] d_Mod_cut_4 (Nat.le_of_ble_eq_true rfl) rfl ?_
  exact stA 0 (by omega) w R hR (fun _ _ _ => rfl) (fun q hq => by omega)
