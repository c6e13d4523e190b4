-- WHAT EACH CALL ANSWERS, as pure functions that both the class and the reference are held against
def sh_ix (N : Nat) (x : Int32) : Option Nat := if 0 ≤ x ∧ x < nI N then some x.toNatClampNeg else none
theorem ix_in {N j : Nat} (hj : j < N) (hN : N < 2 ^ 31) : sh_ix N (nI j) = some j := by
  unfold sh_ix
  rw [if_pos ⟨nI_pos' (by omega), nI_lt hj hN⟩, nI_clamp (by omega)]
theorem ix_lo {N : Nat} {x : Int32} (h : x < 0) : sh_ix N x = none := if_neg (fun q => Int32.not_lt.mpr q.1 h)
theorem ix_hi {N : Nat} {x : Int32} (h : nI N ≤ x) : sh_ix N x = none := if_neg (fun q => Int32.not_lt.mpr h q.2)
theorem ix_of {N : Nat} {x : Int32} (hN : N < 2 ^ 31) : sh_ix N x = none ∨ ∃ j, j < N ∧ x = nI j ∧ sh_ix N x = some j := by
  rcases pk_ix x hN with h | h | ⟨j, hj, rfl⟩
  · exact Or.inl (ix_lo h)
  · exact Or.inl (ix_hi h)
  · exact Or.inr ⟨j, hj, rfl, ix_in hj hN⟩
/-- the first of the first k clients, and 1; 0 when none is in -/
def sh_fi (t p : Nat → Nat) : Nat → Nat
  | 0 => 0
  | k + 1 => if 0 < t k ∧ (sh_fi t p k = 0 ∨ (p k < p (sh_fi t p k - 1) ∨ (p k = p (sh_fi t p k - 1) ∧ k < sh_fi t p k - 1))) then k + 1 else sh_fi t p k
theorem fi_spec (t p : Nat → Nat) : ∀ k, (sh_fi t p k = 0 ∧ ∀ c, c < k → t c = 0) ∨ (∃ b, sh_fi t p k = b + 1 ∧ b < k ∧ 0 < t b ∧ ∀ c, c < k → 0 < t c → c = b ∨ sh_bf p b c)
  | 0 => Or.inl ⟨rfl, fun c h => absurd h (Nat.not_lt_zero _)⟩
  | k + 1 => by
    rcases fi_spec t p k with ⟨h1, h2⟩ | ⟨b, h1, h2, h3, h4⟩
    · by_cases q : 0 < t k
      · right
        refine ⟨k, ?_, by omega, q, fun c hc ht => ?_⟩
        · simp only [sh_fi]
          rw [if_pos ⟨q, Or.inl h1⟩]
        · left
          rcases Nat.lt_or_ge c k with z | z
          · have := h2 c z
            omega
          · omega
      · left
        refine ⟨?_, fun c hc => ?_⟩
        · simp only [sh_fi]
          rw [if_neg (fun z => q z.1)]
          exact h1
        · rcases Nat.lt_or_ge c k with z | z
          · exact h2 c z
          · have : c = k := by omega
            subst this
            omega
    · right
      by_cases q : 0 < t k ∧ sh_bf p k b
      · refine ⟨k, ?_, by omega, q.1, fun c hc ht => ?_⟩
        · simp only [sh_fi]
          rw [h1, if_pos ⟨q.1, Or.inr (by simpa [sh_bf] using q.2)⟩]
        · rcases Nat.lt_or_ge c k with z | z
          · right
            rcases h4 c z ht with e | e
            · rw [e]; exact q.2
            · exact bf_tr q.2 e
          · left; omega
      · refine ⟨b, ?_, by omega, h3, fun c hc ht => ?_⟩
        · simp only [sh_fi]
          rw [h1, if_neg]
          intro z
          refine q ⟨z.1, ?_⟩
          rcases z.2 with w | w
          · omega
          · simpa [sh_bf] using w
        · rcases Nat.lt_or_ge c k with z | z
          · exact h4 c z ht
          · have : c = k := by omega
            subst this
            right
            exact bf_tot (by omega) (fun w => q ⟨ht, w⟩)
theorem fi_I {N n : Nat} {t p L : Nat → Nat} (h : sh_I N t p L n) (hn : 0 < n) : sh_fi t p N = L 0 + 1 := by
  have h0 := h.2.1 0 hn
  rcases fi_spec t p N with ⟨-, h2⟩ | ⟨b, h1, h2, h3, h4⟩
  · have := h2 _ h0.1
    omega
  · rw [h1]
    rcases I_first h h2 h3 with e | e
    · rw [e]
    · rcases h4 _ h0.1 h0.2 with z | z
      · rw [z]
      · exact absurd e (bf_asym z)
theorem fi_I0 {N : Nat} {t p L : Nat → Nat} (h : sh_I N t p L 0) : sh_fi t p N = 0 := by
  rcases fi_spec t p N with ⟨h1, -⟩ | ⟨b, -, h2, h3, -⟩
  · exact h1
  · have := cnt_pos t h2 h3
    have := h.1
    omega
/-- the greatest pass -/
def sh_mx (t p : Nat → Nat) : Nat → Nat
  | 0 => 0
  | k + 1 => if 0 < t k ∧ sh_mx t p k < p k then p k else sh_mx t p k
theorem mx_ub (t p : Nat → Nat) : ∀ k c, c < k → 0 < t c → p c ≤ sh_mx t p k
  | 0, c, h, _ => absurd h (Nat.not_lt_zero _)
  | k + 1, c, h, ht => by
    simp only [sh_mx]
    by_cases q : c = k
    · subst q
      split
      · exact Nat.le_refl _
      · omega
    · have := mx_ub t p k c (by omega) ht
      split <;> omega
theorem mx_at (t p : Nat → Nat) : ∀ k, sh_mx t p k = 0 ∨ ∃ c, c < k ∧ 0 < t c ∧ sh_mx t p k = p c
  | 0 => Or.inl rfl
  | k + 1 => by
    simp only [sh_mx]
    split
    · next h => exact Or.inr ⟨k, by omega, h.1, rfl⟩
    · rcases mx_at t p k with h | ⟨c, h1, h2, h3⟩
      · exact Or.inl h
      · exact Or.inr ⟨c, by omega, h2, h3⟩
theorem mx_I {N n : Nat} {t p L : Nat → Nat} (h : sh_I N t p L (n + 1)) : sh_mx t p N = p (L n) := by
  have hn := h.2.1 n (by omega)
  have h1 := mx_ub t p N _ hn.1 hn.2
  rcases mx_at t p N with h2 | ⟨c, h2, h3, h4⟩
  · omega
  · obtain ⟨i, hi, e⟩ := h.2.2.2 c h2 h3
    have : p c ≤ p (L n) := by
      rcases Nat.lt_or_ge i n with q | q
      · rw [← e]
        exact bf_le (h.2.2.1 i n q (by omega))
      · rw [← e, show i = n by omega]
        exact Nat.le_refl _
    omega
theorem mx_le {t p : Nat → Nat} {M : Nat} (h : ∀ c, p c < M) (hM : 0 < M) (k : Nat) : sh_mx t p k < M := by
  rcases mx_at t p k with q | ⟨c, -, -, q⟩
  · omega
  · rw [q]; exact h c
/-- how many stand before c -/
def sh_rk (t p : Nat → Nat) (c : Nat) : Nat → Nat
  | 0 => 0
  | k + 1 => if 0 < t c ∧ 0 < t k ∧ k ≠ c ∧ sh_bf p k c then sh_rk t p c k + 1 else sh_rk t p c k
