-- WHAT EACH CALL ANSWERS (2)
theorem cnt_congr {u v : Nat → Nat} : ∀ N, (∀ d, d < N → (0 < u d ↔ 0 < v d)) → sh_cnt u N = sh_cnt v N
  | 0, _ => rfl
  | k + 1, h => by
    simp only [sh_cnt]
    rw [cnt_congr k (fun d hd => h d (by omega))]
    by_cases q : 0 < u k
    · rw [if_pos q, if_pos ((h k (by omega)).mp q)]
    · rw [if_neg q, if_neg (fun z => q ((h k (by omega)).mpr z))]
theorem cnt_none : ∀ N, sh_cnt (fun _ => 0) N = 0
  | 0 => rfl
  | k + 1 => by simp [sh_cnt, cnt_none k]
theorem rk_cnt (t p : Nat → Nat) (c : Nat) : ∀ N, sh_rk t p c N = sh_cnt (fun d => if 0 < t c ∧ 0 < t d ∧ d ≠ c ∧ sh_bf p d c then 1 else 0) N
  | 0 => rfl
  | k + 1 => by
    simp only [sh_rk, sh_cnt]
    rw [rk_cnt t p c k]
    by_cases q : 0 < t c ∧ 0 < t k ∧ k ≠ c ∧ sh_bf p k c
    · rw [if_pos q, if_pos (by rw [if_pos q]; omega)]
    · rw [if_neg q, if_neg (by rw [if_neg q]; omega), Nat.add_zero]
theorem ind_I {N n : Nat} {t p L : Nat → Nat} (h : sh_I N t p L n) : ∀ i, i ≤ n → ∃ u : Nat → Nat, (∀ d, 0 < u d ↔ ∃ j, j < i ∧ L j = d) ∧ sh_cnt u N = i
  | 0, _ => ⟨fun _ => 0, fun d => ⟨fun q => absurd q (Nat.lt_irrefl 0), fun ⟨j, hj, _⟩ => absurd hj (by omega)⟩, cnt_none N⟩
  | i + 1, hi => by
    obtain ⟨u, h1, h2⟩ := ind_I h i (by omega)
    have h0 : u (L i) = 0 := by
      rcases Nat.eq_zero_or_pos (u (L i)) with q | q
      · exact q
      · obtain ⟨j, hj, e⟩ := (h1 _).mp q
        have := I_inj h (by omega) (by omega) e
        omega
    refine ⟨sh_up u (L i) 1, fun d => ?_, by rw [cnt_in u h0 (by omega) N (h.2.1 i (by omega)).1, h2]⟩
    by_cases q : d = L i
    · subst q
      rw [sh_up_s]
      exact ⟨fun _ => ⟨i, by omega, rfl⟩, fun _ => by omega⟩
    · rw [sh_up_n u 1 q, h1]
      constructor
      · rintro ⟨j, hj, e⟩
        exact ⟨j, by omega, e⟩
      · rintro ⟨j, hj, e⟩
        refine ⟨j, ?_, e⟩
        rcases Nat.lt_or_ge j i with z | z
        · exact z
        · exact absurd (by rw [← e, show j = i by omega]) q
theorem rk_I {N n i : Nat} {t p L : Nat → Nat} (h : sh_I N t p L n) (hi : i < n) : sh_rk t p (L i) N = i := by
  obtain ⟨u, h1, h2⟩ := ind_I h i (by omega)
  rw [rk_cnt]
  refine Eq.trans (cnt_congr N (fun d hd => ?_)) h2
  rw [h1]
  constructor
  · intro q
    by_cases z : 0 < t (L i) ∧ 0 < t d ∧ d ≠ L i ∧ sh_bf p d (L i)
    · obtain ⟨j, hj, e⟩ := h.2.2.2 d hd z.2.1
      refine ⟨j, ?_, e⟩
      rcases Nat.lt_trichotomy j i with w | w | w
      · exact w
      · exact absurd (by rw [← e, w]) z.2.2.1
      · have := h.2.2.1 i j w hj
        rw [e] at this
        exact absurd z.2.2.2 (bf_asym this)
    · rw [if_neg z] at q
      omega
  · rintro ⟨j, hj, e⟩
    have hb := h.2.2.1 j i hj hi
    rw [e] at hb
    rw [if_pos ⟨(h.2.1 i hi).2, by rw [← e]; exact (h.2.1 j (by omega)).2, bf_ne hb, hb⟩]
    omega
/-- who stands at place k: one alone -/
theorem rk_un {N n k c d : Nat} {t p L : Nat → Nat} (h : sh_I N t p L n) (hc : c < N) (hct : 0 < t c) (hk : sh_rk t p c N = k) (hd : d < N) (hdt : 0 < t d) (hk2 : sh_rk t p d N = k) : c = d := by
  obtain ⟨i, hi, rfl⟩ := h.2.2.2 c hc hct
  obtain ⟨j, hj, rfl⟩ := h.2.2.2 d hd hdt
  rw [rk_I h hi] at hk
  rw [rk_I h hj] at hk2
  rw [hk, hk2]
theorem fi_n0 {N n : Nat} {t p L : Nat → Nat} (h : sh_I N t p L n) (hn : n = 0) : sh_fi t p N = 0 := by
  subst hn
  exact fi_I0 h
/-- who has the next turn, if it goes -/
def sp_go (N big : Nat) (ft fp : Nat → Nat) : Option Nat := match sh_fi ft fp N with
  | 0 => none
  | b + 1 => if 2147483647 < fp b + big / ft b then none else some b
def sp_no (N : Nat) (ft fp : Nat → Nat) : Int32 := if sh_fi ft fp N = 0 then -1 else -2
theorem no_neg (N : Nat) (ft fp : Nat → Nat) : sp_no N ft fp < 0 := by
  unfold sp_no
  split <;> decide
theorem go_0 {N big : Nat} {ft fp : Nat → Nat} (h : sh_fi ft fp N = 0) : sp_go N big ft fp = none ∧ sp_no N ft fp = -1 := by
  unfold sp_go sp_no
  rw [h]
  exact ⟨rfl, rfl⟩
theorem go_far {N big b : Nat} {ft fp : Nat → Nat} (h : sh_fi ft fp N = b + 1) (h2 : 2147483647 < fp b + big / ft b) : sp_go N big ft fp = none ∧ sp_no N ft fp = -2 := by
  unfold sp_go sp_no
  rw [h]
  exact ⟨if_pos h2, rfl⟩
theorem go_ok {N big b : Nat} {ft fp : Nat → Nat} (h : sh_fi ft fp N = b + 1) (h2 : fp b + big / ft b ≤ 2147483647) : sp_go N big ft fp = some b := by
  unfold sp_go
  rw [h]
  exact if_neg (by omega)
/-- so many turns: how many went, the passes and counts behind them -/
def sp_turn (N big : Nat) (ft : Nat → Nat) : Nat → (Nat → Nat) → (Nat → Nat) → Nat × (Nat → Nat) × (Nat → Nat)
  | 0, fp, fr => (0, fp, fr)
  | k + 1, fp, fr => match sp_go N big ft fp with
    | none => (0, fp, fr)
    | some b => ((sp_turn N big ft k (sh_up fp b (fp b + big / ft b)) (sh_up fr b (fr b + 1))).1 + 1, (sp_turn N big ft k (sh_up fp b (fp b + big / ft b)) (sh_up fr b (fr b + 1))).2)
theorem turn_none {N big : Nat} {ft fp fr : Nat → Nat} (h : sp_go N big ft fp = none) : ∀ k, sp_turn N big ft k fp fr = (0, fp, fr)
  | 0 => rfl
  | k + 1 => by simp only [sp_turn]; rw [h]
theorem turn_some {N big b : Nat} {ft fp fr : Nat → Nat} (h : sp_go N big ft fp = some b) (k : Nat) : sp_turn N big ft (k + 1) fp fr = ((sp_turn N big ft k (sh_up fp b (fp b + big / ft b)) (sh_up fr b (fr b + 1))).1 + 1, (sp_turn N big ft k (sh_up fp b (fp b + big / ft b)) (sh_up fr b (fr b + 1))).2) := by
  rw [sp_turn, h]
theorem le_1000 {x : Int32} : x ≤ nI 1000 ↔ ¬ nI 1001 ≤ x := by
  rw [Int32.le_iff_toInt_le, Int32.le_iff_toInt_le, nI_toInt (by decide), nI_toInt (by decide)]
  omega
def sp_ps (N lp : Nat) (ft fp : Nat → Nat) : Nat := match sh_fi ft fp N with
  | 0 => lp
  | b + 1 => fp b
theorem ps_lt {N lp : Nat} {ft fp : Nat → Nat} (h1 : lp < 2 ^ 31) (h2 : ∀ c, fp c < 2 ^ 31) : sp_ps N lp ft fp < 2 ^ 31 := by
  unfold sp_ps
  split
  · exact h1
  · exact h2 _
theorem ps_I {N n lp : Nat} {t p L : Nat → Nat} (h : sh_I N t p L n) : sp_ps N lp t p = if n = 0 then lp else p (L 0) := by
  unfold sp_ps
  by_cases q : n = 0
  · rw [fi_n0 h q, if_pos q]
  · rw [fi_I h (by omega), if_neg q]
def sp_join (N big : Nat) (ft : Nat → Nat) (x y : Int32) : Int32 × Option (Nat × Nat) := match sh_ix N x with
  | none => (-1, none)
  | some j => if 0 < ft j then (-2, none) else match sh_ix big y with
    | some (k + 1) => (1, some (j, k + 1))
    | _ => (-3, none)
def sp_leave (N : Nat) (ft : Nat → Nat) (x : Int32) : Int32 × Option Nat := match sh_ix N x with
  | none => (-1, none)
  | some j => if 0 < ft j then (1, some j) else (-2, none)
def sp_change (N big : Nat) (ft : Nat → Nat) (x y : Int32) : Int32 × Option (Nat × Nat) := match sh_ix N x with
  | none => (-1, none)
  | some j => if 0 < ft j then (match sh_ix big y with
    | some (k + 1) => (nI (ft j), some (j, k + 1))
    | _ => (-3, none)) else (-2, none)
theorem join_1 {N big : Nat} {ft : Nat → Nat} {x y : Int32} (h : sh_ix N x = none) : sp_join N big ft x y = (-1, none) := by
  unfold sp_join; rw [h]
theorem join_2 {N big j : Nat} {ft : Nat → Nat} {y : Int32} (hj : j < N) (hN : N ≤ 64) (h : 0 < ft j) : sp_join N big ft (nI j) y = (-2, none) := by
  unfold sp_join; rw [ix_in hj (by omega)]; exact if_pos h
theorem join_3 {N big j : Nat} {ft : Nat → Nat} {y : Int32} (hj : j < N) (hN : N ≤ 64) (h : ft j = 0) (hy : sh_ix big y = none ∨ sh_ix big y = some 0) : sp_join N big ft (nI j) y = (-3, none) := by
  unfold sp_join; rw [ix_in hj (by omega)]; simp only []; rw [if_neg (by omega)]
  rcases hy with q | q <;> rw [q]
theorem join_4 {N big j k : Nat} {ft : Nat → Nat} (hj : j < N) (hN : N ≤ 64) (h : ft j = 0) (hk : 0 < k) (hkb : k < big) (hb : big ≤ 32768) : sp_join N big ft (nI j) (nI k) = (1, some (j, k)) := by
  unfold sp_join; rw [ix_in hj (by omega)]; simp only []; rw [if_neg (by omega), ix_in hkb (by omega)]
  obtain ⟨k, rfl⟩ : ∃ z, k = z + 1 := ⟨k - 1, by omega⟩
  rfl
theorem leave_1 {N : Nat} {ft : Nat → Nat} {x : Int32} (h : sh_ix N x = none) : sp_leave N ft x = (-1, none) := by
  unfold sp_leave; rw [h]
theorem leave_2 {N j : Nat} {ft : Nat → Nat} (hj : j < N) (hN : N ≤ 64) (h : ft j = 0) : sp_leave N ft (nI j) = (-2, none) := by
  unfold sp_leave; rw [ix_in hj (by omega)]; exact if_neg (by omega)
theorem leave_3 {N j : Nat} {ft : Nat → Nat} (hj : j < N) (hN : N ≤ 64) (h : 0 < ft j) : sp_leave N ft (nI j) = (1, some j) := by
  unfold sp_leave; rw [ix_in hj (by omega)]; exact if_pos h
theorem change_1 {N big : Nat} {ft : Nat → Nat} {x y : Int32} (h : sh_ix N x = none) : sp_change N big ft x y = (-1, none) := by
  unfold sp_change; rw [h]
theorem change_2 {N big j : Nat} {ft : Nat → Nat} {y : Int32} (hj : j < N) (hN : N ≤ 64) (h : ft j = 0) : sp_change N big ft (nI j) y = (-2, none) := by
  unfold sp_change; rw [ix_in hj (by omega)]; exact if_neg (by omega)
theorem change_3 {N big j : Nat} {ft : Nat → Nat} {y : Int32} (hj : j < N) (hN : N ≤ 64) (h : 0 < ft j) (hy : sh_ix big y = none ∨ sh_ix big y = some 0) : sp_change N big ft (nI j) y = (-3, none) := by
  unfold sp_change; rw [ix_in hj (by omega)]; simp only []; rw [if_pos h]
  rcases hy with q | q <;> rw [q]
theorem change_4 {N big j k : Nat} {ft : Nat → Nat} (hj : j < N) (hN : N ≤ 64) (h : 0 < ft j) (hk : 0 < k) (hkb : k < big) (hb : big ≤ 32768) : sp_change N big ft (nI j) (nI k) = (nI (ft j), some (j, k)) := by
  unfold sp_change; rw [ix_in hj (by omega)]; simp only []; rw [if_pos h, ix_in hkb (by omega)]
  obtain ⟨k, rfl⟩ : ∃ z, k = z + 1 := ⟨k - 1, by omega⟩
  rfl
def sp_ran (N : Nat) (fr : Nat → Nat) (x : Int32) : Int32 := match sh_ix N x with
  | none => -1
  | some j => nI (fr j)
def sp_pass (N : Nat) (ft fp : Nat → Nat) (x : Int32) : Int32 := match sh_ix N x with
  | none => -1
  | some j => if 0 < ft j then nI (fp j) else -1
theorem ran_1 {N : Nat} {fr : Nat → Nat} {x : Int32} (h : sh_ix N x = none) : sp_ran N fr x = -1 := by
  unfold sp_ran; rw [h]
theorem ran_2 {N j : Nat} {fr : Nat → Nat} (hj : j < N) (hN : N ≤ 64) : sp_ran N fr (nI j) = nI (fr j) := by
  unfold sp_ran; rw [ix_in hj (by omega)]
theorem pass_1 {N : Nat} {ft fp : Nat → Nat} {x : Int32} (h : sh_ix N x = none) : sp_pass N ft fp x = -1 := by
  unfold sp_pass; rw [h]
theorem pass_2 {N j : Nat} {ft fp : Nat → Nat} (hj : j < N) (hN : N ≤ 64) (h : ft j = 0) : sp_pass N ft fp (nI j) = -1 := by
  unfold sp_pass; rw [ix_in hj (by omega)]; exact if_neg (by omega)
theorem pass_3 {N j : Nat} {ft fp : Nat → Nat} (hj : j < N) (hN : N ≤ 64) (h : 0 < ft j) : sp_pass N ft fp (nI j) = nI (fp j) := by
  unfold sp_pass; rw [ix_in hj (by omega)]; exact if_pos h
def sp_spread (N : Nat) (ft fp : Nat → Nat) : Int32 := match sh_fi ft fp N with
  | 0 => -1
  | b + 1 => nI (sh_mx ft fp N - fp b)
-- how the class's state goes on
theorem V_turn {N big n lp k x : Nat} {ft fs fp fl L2 : Nat → Nat} (h : sh_V N big n lp ft fs fp fl) (hx : x < 2 ^ 31) (hr : sh_rot (sh_up fp (fl 0) x) fl L2 n k) : sh_V N big n lp ft fs (sh_up fp (fl 0) x) L2 := by
  obtain ⟨h1, h2, h3, h4, h5, h6, h7, h8, h9⟩ := h
  refine ⟨h1, h2, h3, h4, h5, fun c => ?_, h7, h8, I_turn h9 hr⟩
  by_cases q : c = fl 0
  · rw [q, sh_up_s]; exact hx
  · rw [sh_up_n fp x q]; exact h6 c
theorem V_join {N big n lp k c tk x : Nat} {ft fs fp fl M L2 : Nat → Nat} (h : sh_V N big n lp ft fs fp fl) (hc : c < N) (h0 : ft c = 0) (htk : 0 < tk) (htb : tk < big) (hx : x < 2 ^ 31) (hM0 : M 0 = c) (hM : ∀ i, i < n → M (i + 1) = fl i) (hr : sh_rot (sh_up fp c x) M L2 (n + 1) k) : sh_V N big (n + 1) lp (sh_up ft c tk) (sh_up fs c (big / tk)) (sh_up fp c x) L2 := by
  obtain ⟨h1, h2, h3, h4, h5, h6, h7, h8, h9⟩ := h
  refine ⟨h1, h2, h3, h4, h5, fun d => ?_, fun d => ?_, fun d => ?_, I_join h9 hc h0 htk hM0 hM hr⟩
  · by_cases q : d = c
    · rw [q, sh_up_s]; exact hx
    · rw [sh_up_n fp x q]; exact h6 d
  · by_cases q : d = c
    · rw [q, sh_up_s]; exact htb
    · rw [sh_up_n ft tk q]; exact h7 d
  · by_cases q : d = c
    · rw [q, sh_up_s, sh_up_s]; exact fun _ => rfl
    · rw [sh_up_n ft tk q, sh_up_n fs _ q]; exact h8 d
theorem V_leave {N big n lp k c : Nat} {ft fs fp fl L2 : Nat → Nat} (h : sh_V N big (n + 1) lp ft fs fp fl) (hk : k < n + 1) (hc : fl k = c) (h1 : ∀ i, i < k → L2 i = fl i) (h2 : ∀ i, k ≤ i → i < n → L2 i = fl (i + 1)) : sh_V N big n (fp c) (sh_up ft c 0) fs fp L2 := by
  obtain ⟨g1, g2, g3, g4, g5, g6, g7, g8, g9⟩ := h
  refine ⟨g1, g2, g3, g4, g6 c, g6, fun d => ?_, fun d => ?_, I_leave g9 hk hc h1 h2⟩
  · by_cases q : d = c
    · rw [q, sh_up_s]; omega
    · rw [sh_up_n ft 0 q]; exact g7 d
  · by_cases q : d = c
    · rw [q, sh_up_s]; intro z; omega
    · rw [sh_up_n ft 0 q]; exact g8 d
theorem V_change {N big n lp c tk : Nat} {ft fs fp fl : Nat → Nat} (h : sh_V N big n lp ft fs fp fl) (h0 : 0 < ft c) (htk : 0 < tk) (htb : tk < big) : sh_V N big n lp (sh_up ft c tk) (sh_up fs c (big / tk)) fp fl := by
  obtain ⟨g1, g2, g3, g4, g5, g6, g7, g8, g9⟩ := h
  refine ⟨g1, g2, g3, g4, g5, g6, fun d => ?_, fun d => ?_, I_change g9 h0 htk⟩
  · by_cases q : d = c
    · rw [q, sh_up_s]; exact htb
    · rw [sh_up_n ft tk q]; exact g7 d
  · by_cases q : d = c
    · rw [q, sh_up_s, sh_up_s]; exact fun _ => rfl
    · rw [sh_up_n ft tk q, sh_up_n fs _ q]; exact g8 d
