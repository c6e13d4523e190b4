-- THE PICTURE, PURE: which client stands before which, how many are in, the line
abbrev sh_bf (p : Nat → Nat) (a b : Nat) : Prop := p a < p b ∨ (p a = p b ∧ a < b)
theorem bf_irr {p : Nat → Nat} {a : Nat} : ¬ sh_bf p a a := by
  intro h
  rcases h with h | h <;> omega
theorem bf_tr {p : Nat → Nat} {a b c : Nat} (h1 : sh_bf p a b) (h2 : sh_bf p b c) : sh_bf p a c := by
  unfold sh_bf at *
  omega
theorem bf_tot {p : Nat → Nat} {a b : Nat} (h : a ≠ b) (h1 : ¬ sh_bf p a b) : sh_bf p b a := by
  unfold sh_bf at *
  omega
theorem bf_asym {p : Nat → Nat} {a b : Nat} (h : sh_bf p a b) : ¬ sh_bf p b a := by
  unfold sh_bf at *
  omega
theorem bf_ne {p : Nat → Nat} {a b : Nat} (h : sh_bf p a b) : a ≠ b := by
  intro q
  subst q
  exact bf_irr h
theorem bf_le {p : Nat → Nat} {a b : Nat} (h : sh_bf p a b) : p a ≤ p b := by
  unfold sh_bf at *
  omega
theorem bf_congr {p p2 : Nat → Nat} {a b : Nat} (ha : p2 a = p a) (hb : p2 b = p b) : sh_bf p2 a b ↔ sh_bf p a b := by
  unfold sh_bf
  rw [ha, hb]
/-- how many of the first N are in -/
def sh_cnt (t : Nat → Nat) : Nat → Nat
  | 0 => 0
  | k + 1 => sh_cnt t k + (if 0 < t k then 1 else 0)
theorem cnt_le (t : Nat → Nat) : ∀ N, sh_cnt t N ≤ N
  | 0 => Nat.le_refl 0
  | k + 1 => by
    have := cnt_le t k
    simp only [sh_cnt]
    split <;> omega
theorem cnt_out (t : Nat → Nat) (c v : Nat) : ∀ N, N ≤ c → sh_cnt (sh_up t c v) N = sh_cnt t N
  | 0, _ => rfl
  | k + 1, h => by
    simp only [sh_cnt]
    rw [cnt_out t c v k (by omega), sh_up_n t v (by omega)]
theorem cnt_in (t : Nat → Nat) {c v : Nat} (h0 : t c = 0) (hv : 0 < v) : ∀ N, c < N → sh_cnt (sh_up t c v) N = sh_cnt t N + 1
  | 0, h => absurd h (Nat.not_lt_zero _)
  | k + 1, h => by
    simp only [sh_cnt]
    by_cases hk : k = c
    · subst hk
      rw [cnt_out t k v k (Nat.le_refl _), sh_up_s, if_pos hv, h0, if_neg (by omega)]
    · rw [cnt_in t h0 hv k (by omega), sh_up_n t v hk]
      omega
theorem cnt_off (t : Nat → Nat) {c : Nat} (h0 : 0 < t c) : ∀ N, c < N → sh_cnt (sh_up t c 0) N + 1 = sh_cnt t N
  | 0, h => absurd h (Nat.not_lt_zero _)
  | k + 1, h => by
    simp only [sh_cnt]
    by_cases hk : k = c
    · subst hk
      rw [cnt_out t k 0 k (Nat.le_refl _), sh_up_s, if_pos h0, if_neg (by omega)]
    · have := cnt_off t h0 k (by omega)
      rw [sh_up_n t 0 hk]
      omega
theorem cnt_same (t : Nat → Nat) {c v : Nat} (h0 : 0 < t c) (hv : 0 < v) : ∀ N, sh_cnt (sh_up t c v) N = sh_cnt t N
  | 0 => rfl
  | k + 1 => by
    simp only [sh_cnt]
    rw [cnt_same t h0 hv k]
    by_cases hk : k = c
    · subst hk
      rw [sh_up_s, if_pos hv, if_pos h0]
    · rw [sh_up_n t v hk]
theorem cnt_lt (t : Nat → Nat) {c N : Nat} (hc : c < N) (h0 : t c = 0) : sh_cnt t N < N := by
  have h1 := cnt_in t h0 (v := 1) (by omega) N hc
  have h2 := cnt_le (sh_up t c 1) N
  omega
theorem cnt_pos (t : Nat → Nat) {c N : Nat} (hc : c < N) (h0 : 0 < t c) : 0 < sh_cnt t N := by
  have h1 := cnt_off t h0 N hc
  omega
theorem cnt_zero (t : Nat → Nat) {N : Nat} (h : sh_cnt t N = 0) {c : Nat} (hc : c < N) : t c = 0 := by
  rcases Nat.eq_zero_or_pos (t c) with q | q
  · exact q
  · have := cnt_pos t hc q
    omega
/-- the line: the clients that are in, by pass and number -/
def sh_I (N : Nat) (t p L : Nat → Nat) (n : Nat) : Prop := n = sh_cnt t N ∧ (∀ i, i < n → L i < N ∧ 0 < t (L i)) ∧ (∀ i j, i < j → j < n → sh_bf p (L i) (L j)) ∧ (∀ c, c < N → 0 < t c → ∃ i, i < n ∧ L i = c)
/-- the first of M has gone back to place k -/
def sh_rot (p M L : Nat → Nat) (n k : Nat) : Prop := k < n ∧ (∀ i, i < k → L i = M (i + 1)) ∧ L k = M 0 ∧ (∀ i, k < i → L i = M i) ∧ (∀ i, i < k → sh_bf p (M (i + 1)) (M 0)) ∧ (k + 1 < n → ¬ sh_bf p (M (k + 1)) (M 0))
theorem rot_sorted {p M L : Nat → Nat} {n k : Nat} (h : sh_rot p M L n k) (hs : ∀ i j, 1 ≤ i → i < j → j < n → sh_bf p (M i) (M j)) (hd : ∀ i, 1 ≤ i → i < n → M i ≠ M 0) : ∀ i j, i < j → j < n → sh_bf p (L i) (L j) := by
  obtain ⟨hk, h1, h2, h3, h4, h5⟩ := h
  intro i j hij hj
  rcases Nat.lt_trichotomy j k with q | q | q
  · rw [h1 i (by omega), h1 j q]
    exact hs _ _ (by omega) (by omega) (by omega)
  · subst q
    rw [h1 i hij, h2]
    exact h4 i hij
  · rw [h3 j q]
    rcases Nat.lt_trichotomy i k with r | r | r
    · rw [h1 i r]
      exact hs _ _ (by omega) (by omega) hj
    · subst r
      rw [h2]
      have hb : sh_bf p (M 0) (M (i + 1)) := bf_tot (hd (i + 1) (by omega) (by omega)) (h5 (by omega))
      by_cases hji : j = i + 1
      · rw [hji]
        exact hb
      · exact bf_tr hb (hs _ _ (by omega) (by omega) hj)
    · rw [h3 i r]
      exact hs _ _ (by omega) hij hj
theorem rot_mem {p M L : Nat → Nat} {n k : Nat} (h : sh_rot p M L n k) {c : Nat} (hc : ∃ i, i < n ∧ M i = c) : ∃ i, i < n ∧ L i = c := by
  obtain ⟨hk, h1, h2, h3, -, -⟩ := h
  obtain ⟨i, hi, e⟩ := hc
  rcases Nat.eq_zero_or_pos i with q | q
  · subst q
    exact ⟨k, hk, by rw [h2, e]⟩
  · rcases Nat.lt_or_ge k i with r | r
    · exact ⟨i, hi, by rw [h3 i r, e]⟩
    · refine ⟨i - 1, by omega, ?_⟩
      rw [h1 (i - 1) (by omega), show i - 1 + 1 = i by omega, e]
theorem rot_from {p M L : Nat → Nat} {n k : Nat} (h : sh_rot p M L n k) {i : Nat} (hi : i < n) : ∃ j, j < n ∧ L i = M j := by
  obtain ⟨hk, h1, h2, h3, -, -⟩ := h
  rcases Nat.lt_trichotomy i k with q | q | q
  · exact ⟨i + 1, by omega, h1 i q⟩
  · subst q
    exact ⟨0, by omega, h2⟩
  · exact ⟨i, hi, h3 i q⟩
theorem I_inj {N n : Nat} {t p L : Nat → Nat} (h : sh_I N t p L n) {i j : Nat} (hi : i < n) (hj : j < n) (e : L i = L j) : i = j := by
  rcases Nat.lt_trichotomy i j with q | q | q
  · exact absurd e (bf_ne (h.2.2.1 i j q hj))
  · exact q
  · exact absurd e.symm (bf_ne (h.2.2.1 j i q hi))
/-- the first one stands before every other -/
theorem I_first {N n : Nat} {t p L : Nat → Nat} (h : sh_I N t p L n) {c : Nat} (hc : c < N) (ht : 0 < t c) : c = L 0 ∨ sh_bf p (L 0) c := by
  obtain ⟨i, hi, e⟩ := h.2.2.2 c hc ht
  rcases Nat.eq_zero_or_pos i with q | q
  · left
    rw [← e, q]
  · right
    rw [← e]
    exact h.2.2.1 0 i q hi
theorem I_new {N : Nat} {t p L : Nat → Nat} (h : ∀ c, c < N → t c = 0) : sh_I N t p L 0 := by
  have hz : ∀ k, k ≤ N → sh_cnt t k = 0 := by
    intro k
    induction k with
    | zero => intro _; rfl
    | succ k ih =>
      intro hk
      simp only [sh_cnt]
      rw [ih (by omega), h k (by omega)]
      rfl
  exact ⟨(hz N (Nat.le_refl N)).symm, fun i hi => absurd hi (Nat.not_lt_zero _), fun i j _ hj => absurd hj (Nat.not_lt_zero _), fun c hc ht => by rw [h c hc] at ht; omega⟩
/-- a turn of the first -/
theorem I_turn {N n k x : Nat} {t p L L2 : Nat → Nat} (h : sh_I N t p L n) (hr : sh_rot (sh_up p (L 0) x) L L2 n k) : sh_I N t (sh_up p (L 0) x) L2 n := by
  have hd : ∀ i, 1 ≤ i → i < n → L i ≠ L 0 := fun i h1 h2 e => by
    have := I_inj h h2 (by omega) e
    omega
  refine ⟨h.1, fun i hi => ?_, rot_sorted hr (fun i j h1 h2 h3 => ?_) hd, fun c hc ht => rot_mem hr (h.2.2.2 c hc ht)⟩
  · obtain ⟨j, hj, e⟩ := rot_from hr hi
    rw [e]
    exact h.2.1 j hj
  · exact (bf_congr (sh_up_n p x (hd i h1 (by omega))) (sh_up_n p x (hd j (by omega) h3))).mpr (h.2.2.1 i j h2 h3)
/-- one joins: in front, then back to its place -/
theorem I_join {N n k c tk x : Nat} {t p L M L2 : Nat → Nat} (h : sh_I N t p L n) (hc : c < N) (h0 : t c = 0) (htk : 0 < tk) (hM0 : M 0 = c) (hM : ∀ i, i < n → M (i + 1) = L i) (hr : sh_rot (sh_up p c x) M L2 (n + 1) k) : sh_I N (sh_up t c tk) (sh_up p c x) L2 (n + 1) := by
  have hne : ∀ i, i < n → L i ≠ c := fun i hi e => by
    have := (h.2.1 i hi).2
    rw [e, h0] at this
    omega
  refine ⟨by rw [cnt_in t h0 htk N hc, ← h.1], fun i hi => ?_, rot_sorted hr (fun i j h1 h2 h3 => ?_) (fun i h1 h2 => ?_), fun d hd ht => rot_mem hr ?_⟩
  · obtain ⟨j, hj, e⟩ := rot_from hr hi
    rw [e]
    cases j with
    | zero =>
      rw [hM0, sh_up_s]
      exact ⟨hc, htk⟩
    | succ j =>
      rw [hM j (by omega), sh_up_n t tk (hne j (by omega))]
      exact h.2.1 j (by omega)
  · obtain ⟨i, rfl⟩ : ∃ z, i = z + 1 := ⟨i - 1, by omega⟩
    obtain ⟨j, rfl⟩ : ∃ z, j = z + 1 := ⟨j - 1, by omega⟩
    rw [hM i (by omega), hM j (by omega)]
    exact (bf_congr (sh_up_n p x (hne i (by omega))) (sh_up_n p x (hne j (by omega)))).mpr (h.2.2.1 i j (by omega) (by omega))
  · obtain ⟨i, rfl⟩ : ∃ z, i = z + 1 := ⟨i - 1, by omega⟩
    rw [hM i (by omega), hM0]
    exact hne i (by omega)
  · by_cases hdc : d = c
    · exact ⟨0, by omega, by rw [hM0, hdc]⟩
    · rw [sh_up_n t tk hdc] at ht
      obtain ⟨i, hi, e⟩ := h.2.2.2 d hd ht
      exact ⟨i + 1, by omega, by rw [hM i hi, e]⟩
/-- one leaves: those behind it come up -/
theorem I_leave {N n k c : Nat} {t p L L2 : Nat → Nat} (h : sh_I N t p L (n + 1)) (hk : k < n + 1) (hc : L k = c) (h1 : ∀ i, i < k → L2 i = L i) (h2 : ∀ i, k ≤ i → i < n → L2 i = L (i + 1)) : sh_I N (sh_up t c 0) p L2 n := by
  have hcN := h.2.1 k hk
  rw [hc] at hcN
  have from_ : ∀ i, i < n → ∃ j, j < n + 1 ∧ j ≠ k ∧ L2 i = L j := fun i hi => by
    rcases Nat.lt_or_ge i k with q | q
    · exact ⟨i, by omega, by omega, h1 i q⟩
    · exact ⟨i + 1, by omega, by omega, h2 i q hi⟩
  refine ⟨?_, fun i hi => ?_, fun i j hij hj => ?_, fun d hd ht => ?_⟩
  · have := cnt_off t hcN.2 N hcN.1
    have := h.1
    omega
  · obtain ⟨j, hj, hjk, e⟩ := from_ i hi
    have hne : L j ≠ c := fun q => hjk (I_inj h hj hk (q.trans hc.symm))
    rw [e, sh_up_n t 0 hne]
    exact h.2.1 j hj
  · rcases Nat.lt_or_ge j k with q | q
    · rw [h1 i (by omega), h1 j q]
      exact h.2.2.1 i j hij (by omega)
    · rw [h2 j q hj]
      rcases Nat.lt_or_ge i k with r | r
      · rw [h1 i r]
        exact h.2.2.1 i (j + 1) (by omega) (by omega)
      · rw [h2 i r (by omega)]
        exact h.2.2.1 (i + 1) (j + 1) (by omega) (by omega)
  · have hdc : d ≠ c := fun q => by rw [q, sh_up_s] at ht; omega
    rw [sh_up_n t 0 hdc] at ht
    obtain ⟨i, hi, e⟩ := h.2.2.2 d hd ht
    have hik : i ≠ k := fun q => hdc (by rw [← e, q, hc])
    rcases Nat.lt_or_ge i k with q | q
    · exact ⟨i, by omega, by rw [h1 i q, e]⟩
    · exact ⟨i - 1, by omega, by rw [h2 (i - 1) (by omega) (by omega), show i - 1 + 1 = i by omega, e]⟩
/-- tickets change: the line stays -/
theorem I_change {N n c v : Nat} {t p L : Nat → Nat} (h : sh_I N t p L n) (h0 : 0 < t c) (hv : 0 < v) : sh_I N (sh_up t c v) p L n := by
  refine ⟨by rw [cnt_same t h0 hv N]; exact h.1, fun i hi => ⟨(h.2.1 i hi).1, ?_⟩, h.2.2.1, fun d hd ht => h.2.2.2 d hd ?_⟩
  · by_cases q : L i = c
    · rw [q, sh_up_s]; exact hv
    · rw [sh_up_n t v q]; exact (h.2.1 i hi).2
  · by_cases q : d = c
    · rw [q]; exact h0
    · rw [sh_up_n t v q] at ht; exact ht
