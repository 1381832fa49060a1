/-! The calls' trees are trees. -/
theorem sum_set {L : List Nat} {k x : Nat} (h : k < L.length) : (L.set k x).sum + gd 0 L k = L.sum + x := by
  induction L generalizing k with
  | nil => simp at h
  | cons y L ih =>
    cases k with
    | zero => rw [List.set_cons_zero, List.sum_cons, List.sum_cons, gd_0]; omega
    | succ k =>
      rw [List.set_cons_succ, List.sum_cons, List.sum_cons, gd_s]
      have := ih (k := k) (by simpa using h)
      omega
theorem addAt_spec (g : List Nat → Nat) (r : Nat → List Nat) (h : Nat) : 1 ≤ addAt g r h ∧ addAt g r h ≤ h + 1 ∧ (∀ k, 1 ≤ k → k < addAt g r h → 4 ≤ g (r k)) ∧ (addAt g r h ≤ h → g (r (addAt g r h)) < 4) := by
  obtain ⟨t, ⟨t1, t2⟩, tm⟩ := pk_least (fun t => 1 ≤ t ∧ (h < t ∨ g (r t) < 4)) ⟨h + 1, by omega, Or.inl (by omega)⟩
  have le : t ≤ h + 1 := by
    apply Nat.le_of_not_lt
    intro q
    exact tm (h + 1) q ⟨by omega, Or.inl (by omega)⟩
  have full : ∀ k, 1 ≤ k → k < t → 4 ≤ g (r k) := by
    intro k a b
    have := tm k b
    apply Nat.le_of_not_lt
    intro q
    exact this ⟨a, Or.inr q⟩
  have last : t ≤ h → g (r t) < 4 := by
    intro q
    rcases t2 with z | z
    · omega
    · exact z
  rw [addAt_eq t1 le full last]
  exact ⟨t1, le, full, last⟩
theorem add_wf {M : Nat} {T : Tr} (hT : wfT M T) (hl : T.1.length < 80) (els : List Int32) (he : els.length = T.1.length + 1) (g : List Nat → Nat) (one bump : List Nat → List Nat) (h1 : ∀ l, (one l).length = l.length + 1 ∧ (one l).sum = l.sum + 1 ∧ (okR l → okR (one l))) (h2 : ∀ l, 1 ≤ l.length → (bump l).length = l.length ∧ (bump l).sum = l.sum + 1 ∧ (okR l → g l < 4 → okR (bump l))) :
    wfT (M + 1) (els, addRows T.2.1 T.2.2 (addAt g T.2.1 T.2.2) one bump, if addAt g T.2.1 T.2.2 ≤ T.2.2 then T.2.2 else T.2.2 + 1) := by
  obtain ⟨a1, a2, a3, a4⟩ := addAt_spec g T.2.1 T.2.2
  generalize addAt g T.2.1 T.2.2 = t at a1 a2 a3 a4
  obtain ⟨els0, r, h⟩ := T
  have hne := fun k => wf_ne hT (k := k)
  obtain ⟨w1, w2, w3, w4, w5, w6⟩ := hT
  simp only at w1 w2 w3 w4 w5 w6 hl he a1 a2 a3 a4 hne ⊢
  have r1 : ∀ k, 1 ≤ k → k < t → addRows r h t one bump k = one (r k) := fun k x y => by unfold addRows; rw [if_pos ⟨x, y⟩]
  have r2 : t ≤ h → addRows r h t one bump t = bump (r t) := fun x => by unfold addRows; rw [if_neg (by omega), if_pos rfl, if_pos x]
  have r3 : ¬ t ≤ h → addRows r h t one bump t = [if h = 0 then 1 else 2] := fun x => by unfold addRows; rw [if_neg (by omega), if_pos rfl, if_neg x]
  have r4 : ∀ k, k = 0 ∨ t < k → addRows r h t one bump k = r k := fun k x => by unfold addRows; rw [if_neg (by omega), if_neg (by omega)]
  have c0 : ∀ k, k < t → cn (els, addRows r h t one bump, if t ≤ h then h else h + 1) k = cn (els0, r, h) k + 1 := by
    intro k hk
    by_cases k0 : k = 0
    · subst k0; rw [cn_0, cn_0]; exact he
    · rw [cn_p _ (by omega), cn_p _ (by omega)]
      show (addRows r h t one bump k).length = (r k).length + 1
      rw [r1 k (by omega) hk, (h1 _).1]
  have c1 : ∀ k, t ≤ k → k ≤ h → cn (els, addRows r h t one bump, if t ≤ h then h else h + 1) k = cn (els0, r, h) k := by
    intro k hk hh
    rw [cn_p _ (by omega), cn_p _ (by omega)]
    show (addRows r h t one bump k).length = (r k).length
    by_cases e : k = t
    · subst e; rw [r2 hh, (h2 _ (hne k a1 hh)).1]
    · rw [r4 k (Or.inr (by omega))]
  refine ⟨by simp only [he]; omega, by simp only; split <;> omega, ?_, ?_, ?_, ?_⟩
  · simp only [he]; split <;> omega
  · intro k hk
    simp only at hk ⊢
    split at hk
    · rw [r4 k (by omega), w4 k (by omega)]
    · rw [r4 k (by omega), w4 k (by omega)]
  · intro k k1 k2
    simp only at k2 ⊢
    by_cases e1 : k < t
    · obtain ⟨x1, x2⟩ := w5 k k1 (by omega)
      rw [r1 k k1 e1, c0 (k - 1) (by omega), (h1 _).2.1, x2]
      exact ⟨(h1 _).2.2 x1, rfl⟩
    · by_cases e2 : k = t
      · subst e2
        rw [c0 (k - 1) (by omega)]
        by_cases e3 : k ≤ h
        · obtain ⟨x1, x2⟩ := w5 k k1 e3
          rw [r2 e3, (h2 _ (hne k k1 e3)).2.1, x2]
          exact ⟨(h2 _ (hne k k1 e3)).2.2 x1 (a4 e3), rfl⟩
        · rw [r3 e3]
          have : k = h + 1 := by omega
          subst this
          by_cases h0 : h = 0
          · subst h0
            have : els0.length = 0 := w3.mp rfl
            refine ⟨fun x hx => by simp at hx; omega, ?_⟩
            simp [cn, this]
          · have l1 := w6 (by omega)
            refine ⟨fun x hx => by simp [h0] at hx; omega, ?_⟩
            rw [Nat.add_sub_cancel, cn_p _ (by omega)]
            simp [h0, l1]
      · have kh : k ≤ h := by split at k2 <;> omega
        obtain ⟨x1, x2⟩ := w5 k k1 kh
        rw [r4 k (Or.inr (by omega)), c1 (k - 1) (by omega) (by omega), x2]
        exact ⟨x1, rfl⟩
  · intro _
    simp only
    by_cases e : t ≤ h
    · rw [if_pos e]
      have l1 := w6 (by omega)
      by_cases e2 : t = h
      · subst e2; rw [r2 e, (h2 _ (hne t a1 e)).1, l1]
      · rw [r4 h (Or.inr (by omega)), l1]
    · rw [if_neg e, show h + 1 = t by omega, r3 e]; rfl
theorem addEnd_wf {M : Nat} {T : Tr} (hT : wfT M T) (hl : T.1.length < 80) (x : Int32) : wfT (M + 1) (addEnd T x) := by
  refine add_wf hT hl (T.1 ++ [x]) (by simp) endOf _ _ (fun l => ⟨by simp, by simp, fun h y hy => ?_⟩) (fun l hl => ⟨by simp, ?_, fun h h4 => okR_of (fun i hi => ?_)⟩)
  · rcases List.mem_append.mp hy with z | z
    · exact h y z
    · simp at z; omega
  · have := sum_set (L := l) (k := l.length - 1) (x := endOf l + 1) (by omega)
    unfold endOf at this ⊢
    omega
  · rw [List.length_set] at hi
    rw [gd_set (by omega)]
    split
    · omega
    · exact okR_gd h hi
theorem addBeg_wf {M : Nat} {T : Tr} (hT : wfT M T) (hl : T.1.length < 80) (x : Int32) : wfT (M + 1) (addBeg T x) := by
  refine add_wf hT hl (x :: T.1) (by simp) begOf _ _ (fun l => ⟨by simp, by simp; omega, fun h y hy => ?_⟩) (fun l hl => ⟨by simp, ?_, fun h h4 => okR_of (fun i hi => ?_)⟩)
  · rcases List.mem_cons.mp hy with z | z
    · omega
    · exact h y z
  · have := sum_set (L := l) (k := 0) (x := begOf l + 1) (by omega)
    unfold begOf at this ⊢
    omega
  · rw [List.length_set] at hi
    rw [gd_set (by omega)]
    split
    · omega
    · exact okR_gd h hi
/-! cutting: the stretch of each level -/
theorem cut_in {M : Nat} {T : Tr} (hT : wfT M T) {f e : Nat} (hfe : f < e) (he : e ≤ T.1.length) : ∀ k, k ≤ T.2.2 → cutF T.2.1 f k < cutE T.2.1 f e k ∧ cutE T.2.1 f e k ≤ cn T k := by
  intro k
  induction k with
  | zero => intro _; exact ⟨hfe, he⟩
  | succ k ih =>
    intro hk
    obtain ⟨a, b⟩ := ih (by omega)
    obtain ⟨x1, x2⟩ := hT.2.2.2.2.1 (k + 1) (by omega) hk
    rw [Nat.add_sub_cancel] at x2
    obtain ⟨c1, c2, c3⟩ := clip_len (L := T.2.1 (k + 1)) (fun x hx => (x1 x hx).1) a (by rw [x2]; exact b)
    simp only [cutF, cutE]
    rw [cn_p T (by omega)]
    omega
theorem cutR_len {M : Nat} {T : Tr} (hT : wfT M T) {f e : Nat} (hfe : f < e) (he : e ≤ T.1.length) {k : Nat} (k1 : 1 ≤ k) (k2 : k ≤ T.2.2) : (cutR T.2.1 f e k).length = cutE T.2.1 f e k - cutF T.2.1 f k ∧ 1 ≤ (cutR T.2.1 f e k).length := by
  obtain ⟨a, b⟩ := cut_in hT hfe he k k2
  obtain ⟨k, rfl⟩ : ∃ j, k = j + 1 := ⟨k - 1, by omega⟩
  simp only [cutR, cutE, cutF] at a b ⊢
  omega
theorem cutR_sum {M : Nat} {T : Tr} (hT : wfT M T) {f e : Nat} (hfe : f < e) (he : e ≤ T.1.length) {k : Nat} (k1 : 1 ≤ k) (k2 : k ≤ T.2.2) : (cutR T.2.1 f e k).sum = (if k = 1 then e - f else (cutR T.2.1 f e (k - 1)).length) ∧ okR (cutR T.2.1 f e k) := by
  obtain ⟨a, b⟩ := cut_in hT hfe he (k - 1) (by omega)
  obtain ⟨x1, x2⟩ := hT.2.2.2.2.1 k k1 k2
  obtain ⟨k, rfl⟩ : ∃ j, k = j + 1 := ⟨k - 1, by omega⟩
  rw [Nat.add_sub_cancel] at a b x2 ⊢
  constructor
  · rw [show cutR T.2.1 f e (k + 1) = clip (T.2.1 (k + 1)) (cutF T.2.1 f k) (cutE T.2.1 f e k) from rfl]
    rw [clip_sum (by omega) (by rw [x2]; exact b)]
    by_cases k0 : k = 0
    · subst k0; simp [cutE, cutF]
    · rw [if_neg (by omega), (cutR_len hT hfe he (k := k) (by omega) (by omega)).1]
  · intro x hx
    exact clip_mem (fun y hy => (x1 y hy).2) hx
theorem lowH_ok (R : Nat → List Nat) (c : Nat → Nat) (hR : ∀ k, 1 ≤ k → (R k).length = c k) : ∀ h, 1 ≤ h → (R h).length = 1 → (∀ k, 2 ≤ k → k ≤ h → (R k).sum = c (k - 1)) → 1 ≤ lowH R h ∧ lowH R h ≤ h ∧ (R (lowH R h)).length = 1
  | 0, h1, _, _ => by omega
  | 1, _, h2, _ => ⟨by simp [lowH], by simp [lowH], by simpa [lowH] using h2⟩
  | h + 2, _, h2, h3 => by
    simp only [lowH]
    by_cases e : gd 0 (R (h + 2)) 0 = 1
    · rw [if_pos e]
      have s1 := h3 (h + 2) (by omega) (Nat.le_refl _)
      have s2 : (R (h + 2)).sum = 1 := by
        rw [← ps_len (L := R (h + 2)) (k := 1) (by omega), ps_s, ps_0, e]
      have s3 : (R (h + 1)).length = 1 := by
        rw [hR (h + 1) (by omega)]
        rw [show h + 2 - 1 = h + 1 by omega] at s1
        omega
      obtain ⟨a, b, c'⟩ := lowH_ok R c hR (h + 1) (by omega) s3 (fun k x y => h3 k x (by omega))
      exact ⟨a, by omega, c'⟩
    · rw [if_neg e]
      exact ⟨by omega, Nat.le_refl _, h2⟩
theorem cutT_wf {M : Nat} {T : Tr} (hT : wfT M T) {f e : Nat} (hfe : f ≤ e) (he : e ≤ T.1.length) : wfT M (cutT T f e) := by
  by_cases h0 : e - f = 0
  · have hH : cutH T f e = 0 := by unfold cutH; rw [if_pos h0]
    unfold cutT
    rw [hH, h0]
    refine ⟨by simp, by simp, by simp, fun k hk => ?_, fun k k1 k2 => ?_, fun k1 => ?_⟩
    · simp only
      by_cases k0 : k = 0
      · subst k0; rfl
      · rw [if_neg (by omega)]
    · simp only at k2; omega
    · simp only at k1; omega
  · have hlt : f < e := by omega
    have hh : 1 ≤ T.2.2 := by
      apply Nat.one_le_iff_ne_zero.mpr
      intro q
      have := hT.2.2.1.mp q
      omega
    have top : (cutR T.2.1 f e T.2.2).length = 1 := by
      have h1 := (cutR_len hT hlt he hh (Nat.le_refl _))
      have h2 := cut_in hT hlt he T.2.2 (Nat.le_refl _)
      have h3 := hT.2.2.2.2.2 hh
      rw [cn_p T hh, h3] at h2
      omega
    obtain ⟨l1, l2, l3⟩ := lowH_ok (cutR T.2.1 f e) (fun k => (cutR T.2.1 f e k).length) (fun k _ => rfl) T.2.2 hh top (fun k k1 k2 => by
      rw [(cutR_sum hT hlt he (k := k) (by omega) k2).1, if_neg (by omega)])
    have hH : cutH T f e = lowH (cutR T.2.1 f e) T.2.2 := by unfold cutH; rw [if_neg h0]
    unfold cutT
    rw [hH]
    generalize lowH (cutR T.2.1 f e) T.2.2 = g at l1 l2 l3
    have le80 := hT.1
    have hM := hT.2.1
    have len : ((T.1.drop f).take (e - f)).length = e - f := by simp; omega
    refine ⟨by simp only [len]; omega, by simp only; omega, by simp only [len]; omega, fun k hk => ?_, fun k k1 k2 => ?_, fun k1 => ?_⟩
    · simp only at hk ⊢
      by_cases k0 : k = 0
      · subst k0; simp [cutR]
      · rw [if_neg (by omega)]
    · simp only at k2 ⊢
      rw [if_pos k2]
      obtain ⟨s1, s2⟩ := cutR_sum hT hlt he (k := k) k1 (by omega)
      refine ⟨s2, ?_⟩
      rw [s1]
      by_cases e1 : k = 1
      · subst e1; rw [if_pos rfl]; simp only [cn]; simp [len]
      · rw [if_neg e1, cn_p _ (by omega)]
        simp only
        rw [if_pos (by omega)]
    · simp only
      rw [if_pos (Nat.le_refl _)]
      exact l3
