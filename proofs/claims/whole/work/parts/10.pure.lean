/-! PURE ROWS: lists by place, sums, the trees' words. Nothing of the machine here. -/
def gd {α : Type} (z : α) (L : List α) (i : Nat) : α := (L[i]?).getD z
theorem gd_at {α : Type} {z : α} {L : List α} {i : Nat} (h : i < L.length) : L[i]? = some (gd z L i) := by
  simp [gd, List.getElem?_eq_getElem h]
theorem gd_ge {α : Type} {z : α} {L : List α} {i : Nat} (h : L.length ≤ i) : gd z L i = z := by
  simp [gd, List.getElem?_eq_none h]
theorem gd_nil {α : Type} {z : α} {i : Nat} : gd z ([] : List α) i = z := by simp [gd]
theorem gd_0 {α : Type} {z x : α} {L : List α} : gd z (x :: L) 0 = x := by simp [gd]
theorem gd_s {α : Type} {z x : α} {L : List α} {i : Nat} : gd z (x :: L) (i + 1) = gd z L i := by simp [gd]
theorem gd_l {α : Type} {z : α} {L M : List α} {i : Nat} (h : i < L.length) : gd z (L ++ M) i = gd z L i := by
  simp [gd, List.getElem?_append_left h]
theorem gd_r {α : Type} {z : α} {L M : List α} {i : Nat} (h : L.length ≤ i) : gd z (L ++ M) i = gd z M (i - L.length) := by
  simp [gd, List.getElem?_append_right h]
theorem gd_rr {α : Type} {z : α} {L M : List α} {i : Nat} : gd z (L ++ M) (L.length + i) = gd z M i := by
  rw [gd_r (by omega)]; congr 1; omega
theorem gd_set {α : Type} {z x : α} {L : List α} {k i : Nat} (hk : k < L.length) : gd z (L.set k x) i = if i = k then x else gd z L i := by
  by_cases h : i = k
  · subst h; simp [gd, List.getElem?_set_self hk]
  · simp [gd, List.getElem?_set_ne (Ne.symm h), h]
theorem gd_take {α : Type} {z : α} {L : List α} {k i : Nat} (h : i < k) : gd z (L.take k) i = gd z L i := by
  simp [gd, List.getElem?_take, h]
theorem gd_drop {α : Type} {z : α} {L : List α} {k i : Nat} : gd z (L.drop k) i = gd z L (k + i) := by
  simp [gd, List.getElem?_drop]
theorem gd_map {α β : Type} {z : α} {L : List α} {f : α → β} {i : Nat} : gd (f z) (L.map f) i = f (gd z L i) := by
  simp only [gd, List.getElem?_map]
  cases L[i]? <;> rfl
theorem gd_erase {α : Type} {z : α} {L : List α} {k i : Nat} : gd z (L.eraseIdx k) i = if i < k then gd z L i else gd z L (i + 1) := by
  simp only [gd, List.getElem?_eraseIdx]
  split <;> rfl
theorem gd_ext {α : Type} (z : α) {L M : List α} (hl : L.length = M.length) (h : ∀ i, i < L.length → gd z L i = gd z M i) : L = M := by
  apply List.ext_getElem? 
  intro i
  by_cases hi : i < L.length
  · rw [gd_at (z := z) hi, gd_at (z := z) (by omega), h i hi]
  · rw [List.getElem?_eq_none (by omega), List.getElem?_eq_none (by omega)]
theorem gd_mem {α : Type} {z : α} {L : List α} {i : Nat} (h : i < L.length) : gd z L i ∈ L := List.mem_of_getElem? (gd_at h)
theorem gd_of_mem {α : Type} {z x : α} {L : List α} (h : x ∈ L) : ∃ i, i < L.length ∧ gd z L i = x := by
  obtain ⟨i, hi⟩ := List.getElem?_of_mem h
  exact ⟨i, (List.getElem?_eq_some_iff.mp hi).1, by simp [gd, hi]⟩
/-- the sum of the first k -/
def ps (L : List Nat) (k : Nat) : Nat := (L.take k).sum
theorem ps_0 (L : List Nat) : ps L 0 = 0 := by simp [ps]
theorem ps_s (L : List Nat) (k : Nat) : ps L (k + 1) = ps L k + gd 0 L k := by
  induction L generalizing k with
  | nil => simp [ps, gd]
  | cons x L ih =>
    cases k with
    | zero => simp [ps, gd]
    | succ k =>
      have := ih k
      simp only [ps, List.take_succ_cons, List.sum_cons] at this ⊢
      rw [gd_s]
      omega
theorem ps_len {L : List Nat} {k : Nat} (h : L.length ≤ k) : ps L k = L.sum := by
  simp [ps, List.take_of_length_le h]
theorem ps_mono (L : List Nat) {a b : Nat} (h : a ≤ b) : ps L a ≤ ps L b := by
  induction b with
  | zero => rw [show a = 0 by omega]; exact Nat.le_refl _
  | succ b ih =>
    by_cases e : a = b + 1
    · rw [e]; exact Nat.le_refl _
    · have := ih (by omega)
      rw [ps_s]; omega
theorem ps_le_sum (L : List Nat) (k : Nat) : ps L k ≤ L.sum := by
  by_cases h : L.length ≤ k
  · rw [ps_len h]; exact Nat.le_refl _
  · rw [← ps_len (L := L) (k := L.length) (Nat.le_refl _)]
    exact ps_mono L (by omega)
theorem ps_cons (x : Nat) (L : List Nat) (k : Nat) : ps (x :: L) (k + 1) = x + ps L k := by simp [ps]
theorem len_le_sum {L : List Nat} (h : ∀ x ∈ L, 1 ≤ x) : L.length ≤ L.sum := by
  induction L with
  | nil => simp
  | cons x L ih =>
    have h1 := h x List.mem_cons_self
    have h2 := ih (fun y hy => h y (List.mem_cons_of_mem _ hy))
    simp only [List.length_cons, List.sum_cons]
    omega
/-- which node holds a slot -/
def hold : List Nat → Nat → Nat
  | [], _ => 0
  | x :: L, s => if s < x then 0 else hold L (s - x) + 1
theorem hold_le (L : List Nat) (s : Nat) : hold L s ≤ L.length := by
  induction L generalizing s with
  | nil => simp [hold]
  | cons x L ih =>
    simp only [hold, List.length_cons]
    split
    · omega
    · have := ih (s - x); omega
theorem hold_eq (L : List Nat) (s k : Nat) (h1 : ∀ j, j < k → ps L (j + 1) ≤ s) (h2 : k < L.length → s < ps L (k + 1)) (h3 : k ≤ L.length) : hold L s = k := by
  induction L generalizing s k with
  | nil => simp at h3; simp [hold, h3]
  | cons x L ih =>
    cases k with
    | zero =>
      have := h2 (by simp)
      rw [ps_cons, ps_0] at this
      simp only [hold]
      rw [if_pos (by omega)]
    | succ k =>
      have h4 := h1 0 (by omega)
      rw [ps_cons, ps_0] at h4
      simp only [hold]
      rw [if_neg (by omega)]
      congr 1
      apply ih (s - x) k
      · intro j hj
        have := h1 (j + 1) (by omega)
        rw [ps_cons] at this
        omega
      · intro hk
        have := h2 (by simp; omega)
        rw [ps_cons] at this
        omega
      · simp at h3; omega
theorem hold_lo (L : List Nat) (s : Nat) : ps L (hold L s) ≤ s := by
  induction L generalizing s with
  | nil => simp [ps]
  | cons x L ih =>
    simp only [hold]
    split
    · rw [ps_0]; omega
    · rw [ps_cons]; have := ih (s - x); omega
theorem hold_hi {L : List Nat} {s : Nat} (h : s < L.sum) : hold L s < L.length ∧ s < ps L (hold L s + 1) := by
  induction L generalizing s with
  | nil => simp at h
  | cons x L ih =>
    simp only [hold]
    simp only [List.sum_cons] at h
    split
    · rw [ps_cons, ps_0]; simp; omega
    · obtain ⟨a, b⟩ := ih (s := s - x) (by omega)
      rw [ps_cons]
      simp only [List.length_cons]
      omega
/-- what is left of each node when its slots f .. e - 1 stay -/
def ovs (f e : Nat) : Nat → List Nat → List Nat
  | _, [] => []
  | s, x :: L => (min (s + x) e - max s f) :: ovs f e (s + x) L
def pos (L : List Nat) : List Nat := L.filter (fun x => decide (0 < x))
def clip (L : List Nat) (f e : Nat) : List Nat := pos (ovs f e 0 L)
theorem ovs_len (f e s : Nat) (L : List Nat) : (ovs f e s L).length = L.length := by
  induction L generalizing s with
  | nil => rfl
  | cons x L ih => simp [ovs, ih]
theorem ovs_gd (f e s : Nat) (L : List Nat) (i : Nat) (h : i < L.length) : gd 0 (ovs f e s L) i = min (s + ps L (i + 1)) e - max (s + ps L i) f := by
  induction L generalizing s i with
  | nil => simp at h
  | cons x L ih =>
    cases i with
    | zero => simp only [ovs]; rw [gd_0, ps_cons, ps_0, ps_0]; simp
    | succ i =>
      simp only [ovs]
      rw [gd_s, ih (s + x) i (by simp at h; omega), ps_cons, ps_cons, Nat.add_assoc, Nat.add_assoc]
theorem pos_take (L : List Nat) (k : Nat) (h : k < L.length) : pos (L.take (k + 1)) = pos (L.take k) ++ (if 0 < gd 0 L k then [gd 0 L k] else []) := by
  have : L.take (k + 1) = L.take k ++ [gd 0 L k] := by
    rw [List.take_add_one, gd_at (z := 0) h]; rfl
  rw [this]
  simp only [pos, List.filter_append]
  congr 1
  by_cases h0 : 0 < gd 0 L k <;> simp [h0]
/-- how many children of each node are left -/
def cnts : List Nat → List Nat → List Nat
  | [], _ => []
  | x :: P, l => (pos (l.take x)).length :: cnts P (l.drop x)
theorem pos_cnt (l : List Nat) (a b : Nat) (hab : a ≤ b) (h : ∀ c, c < l.length → (0 < gd 0 l c ↔ a ≤ c ∧ c < b)) (k : Nat) (hk : k ≤ l.length) : (pos (l.take k)).length = min k b - min k a := by
  induction k with
  | zero => simp [pos]
  | succ k ih =>
    have h1 := ih (by omega)
    rw [pos_take l k (by omega), List.length_append, h1]
    have h2 := h k (by omega)
    by_cases hp : 0 < gd 0 l k
    · rw [if_pos hp]
      have h3 := h2.mp hp
      simp only [List.length_singleton, Nat.min_def]
      split <;> split <;> split <;> split <;> omega
    · rw [if_neg hp]
      have h3 : ¬ (a ≤ k ∧ k < b) := fun q => hp (h2.mpr q)
      simp only [List.length_nil, Nat.min_def]
      split <;> split <;> split <;> split <;> omega
theorem pos_split (l : List Nat) (s x : Nat) : (pos ((l.drop s).take x)).length = (pos (l.take (s + x))).length - (pos (l.take s)).length := by
  have : l.take (s + x) = l.take s ++ (l.drop s).take x := List.take_add
  rw [this]
  simp only [pos, List.filter_append, List.length_append]
  omega
theorem cnts_ovs (l : List Nat) (a b : Nat) (hab : a ≤ b) (h : ∀ c, c < l.length → (0 < gd 0 l c ↔ a ≤ c ∧ c < b)) (P : List Nat) (s : Nat) (hs : s + P.sum ≤ l.length) : cnts P (l.drop s) = ovs a b s P := by
  induction P generalizing s with
  | nil => rfl
  | cons x P ih =>
    simp only [List.sum_cons] at hs
    simp only [cnts, ovs]
    rw [pos_split, pos_cnt l a b hab h (s + x) (by omega), pos_cnt l a b hab h s (by omega), List.drop_drop, ih (s + x) (by omega)]
    congr 1
    simp only [Nat.min_def, Nat.max_def]
    (repeat' split) <;> omega
/-- where the nodes lie that keep something -/
theorem ovs_pos {L : List Nat} (h1 : ∀ x ∈ L, 1 ≤ x) {f e : Nat} (hfe : f < e) (he : e ≤ L.sum) (c : Nat) (hc : c < L.length) : 0 < gd 0 (ovs f e 0 L) c ↔ hold L f ≤ c ∧ c < hold L (e - 1) + 1 := by
  rw [ovs_gd f e 0 L c hc, Nat.zero_add, Nat.zero_add]
  have p1 : ps L (c + 1) = ps L c + gd 0 L c := ps_s L c
  have p2 := h1 _ (gd_mem (z := 0) hc)
  have a1 := hold_lo L f
  obtain ⟨a2, a3⟩ := hold_hi (L := L) (s := f) (by omega)
  have b1 := hold_lo L (e - 1)
  obtain ⟨b2, b3⟩ := hold_hi (L := L) (s := e - 1) (by omega)
  constructor
  · intro h
    have h2 : ps L c < e ∧ f < ps L (c + 1) := by
      simp only [Nat.min_def, Nat.max_def] at h
      split at h <;> split at h <;> omega
    refine ⟨?_, ?_⟩
    · apply Nat.le_of_not_lt
      intro q
      have := ps_mono L (a := c + 1) (b := hold L f) (by omega)
      omega
    · apply Nat.lt_of_not_le
      intro q
      have := ps_mono L (a := hold L (e - 1) + 1) (b := c) q
      omega
  · rintro ⟨q1, q2⟩
    have r1 := ps_mono L (a := hold L f + 1) (b := c + 1) (by omega)
    have r2 := ps_mono L (a := c) (b := hold L (e - 1)) (by omega)
    simp only [Nat.min_def, Nat.max_def]
    split <;> split <;> omega
theorem hold_mono {L : List Nat} {s t : Nat} (h : s ≤ t) (ht : t < L.sum) : hold L s ≤ hold L t := by
  have a1 := hold_lo L s
  obtain ⟨b2, b3⟩ := hold_hi ht
  apply Nat.le_of_not_lt
  intro q
  have := ps_mono L (a := hold L t + 1) (b := hold L s) (by omega)
  omega
theorem clip_len {L : List Nat} (h1 : ∀ x ∈ L, 1 ≤ x) {f e : Nat} (hfe : f < e) (he : e ≤ L.sum) : hold L f + (clip L f e).length = hold L (e - 1) + 1 ∧ hold L f < hold L (e - 1) + 1 ∧ hold L (e - 1) + 1 ≤ L.length := by
  have hab := hold_mono (L := L) (s := f) (t := e - 1) (by omega) (by omega)
  obtain ⟨b2, b3⟩ := hold_hi (L := L) (s := e - 1) (by omega)
  have hl := ovs_len f e 0 L
  have := pos_cnt (ovs f e 0 L) (hold L f) (hold L (e - 1) + 1) (by omega) (fun c hc => ovs_pos h1 hfe he c (by rw [hl] at hc; exact hc)) L.length (by omega)
  rw [← hl, List.take_length, hl] at this
  unfold clip
  rw [this, Nat.min_def, Nat.min_def]
  split <;> split <;> omega
/-- one level up: the children left of each node of P, by counting and by the stretch -/
theorem cut_up {L P : List Nat} (h1 : ∀ x ∈ L, 1 ≤ x) (hP : P.sum ≤ L.length) {f e : Nat} (hfe : f < e) (he : e ≤ L.sum) : cnts P (ovs f e 0 L) = ovs (hold L f) (hold L f + (clip L f e).length) 0 P := by
  obtain ⟨c1, c2, c3⟩ := clip_len h1 hfe he
  have hl := ovs_len f e 0 L
  rw [c1]
  exact cnts_ovs (ovs f e 0 L) (hold L f) (hold L (e - 1) + 1) (by omega) (fun c hc => ovs_pos h1 hfe he c (by rw [hl] at hc; exact hc)) P 0 (by rw [hl]; omega)
theorem ovs_same (f s : Nat) (L : List Nat) : ovs f f s L = List.replicate L.length 0 := by
  induction L generalizing s with
  | nil => rfl
  | cons x L ih =>
    simp only [ovs, List.length_cons, List.replicate_succ]
    rw [ih]
    congr 1
    simp only [Nat.min_def, Nat.max_def]
    split <;> split <;> omega
theorem pos_zeros (n : Nat) : pos (List.replicate n 0) = [] := by
  induction n with
  | zero => rfl
  | succ n ih => simp only [pos, List.replicate_succ, List.filter_cons]; simpa [pos] using ih
theorem clip_same (L : List Nat) (f : Nat) : clip L f f = [] := by
  unfold clip; rw [ovs_same, pos_zeros]
theorem cnts_zeros (P : List Nat) (n : Nat) : cnts P (List.replicate n 0) = List.replicate P.length 0 := by
  induction P generalizing n with
  | nil => rfl
  | cons x P ih =>
    simp only [cnts, List.length_cons, List.replicate_succ, List.take_replicate, List.drop_replicate]
    rw [pos_zeros, ih]
    rfl
theorem clip_mem {L : List Nat} {f e x : Nat} (h4 : ∀ y ∈ L, y ≤ 4) (h : x ∈ clip L f e) : 1 ≤ x ∧ x ≤ 4 := by
  unfold clip pos at h
  obtain ⟨h1, h2⟩ := List.mem_filter.mp h
  obtain ⟨i, hi, hx⟩ := gd_of_mem (z := 0) h1
  rw [ovs_len] at hi
  rw [ovs_gd _ _ _ _ _ hi] at hx
  have h3 := h4 _ (gd_mem (z := 0) hi)
  have h5 := ps_s L i
  refine ⟨by have := of_decide_eq_true h2; omega, ?_⟩
  rw [← hx]
  simp only [Nat.min_def, Nat.max_def]
  split <;> split <;> omega
theorem clip_sum {L : List Nat} {f e : Nat} (hfe : f ≤ e) (he : e ≤ L.sum) : (clip L f e).sum = e - f := by
  have pos_sum : ∀ l : List Nat, (pos l).sum = l.sum := by
    intro l
    induction l with
    | nil => rfl
    | cons x l ih =>
      unfold pos at ih ⊢
      by_cases hx : 0 < x
      · rw [List.filter_cons, if_pos (by simpa using hx), List.sum_cons, List.sum_cons, ih]
      · rw [List.filter_cons, if_neg (by simpa using hx), List.sum_cons, ih]; omega
  have key : ∀ (l : List Nat) (s : Nat), s + l.sum ≥ e → (ovs f e s l).sum = e - max s f := by
    intro l
    induction l with
    | nil =>
      intro s hs
      simp only [List.sum_nil] at hs
      simp only [ovs, List.sum_nil, Nat.max_def]
      split <;> omega
    | cons x l ih =>
      intro s hs
      simp only [List.sum_cons] at hs
      simp only [ovs, List.sum_cons]
      rw [ih (s + x) (by omega)]
      simp only [Nat.min_def, Nat.max_def]
      split <;> split <;> split <;> omega
  unfold clip
  rw [pos_sum, key L 0 (by omega)]
  simp
