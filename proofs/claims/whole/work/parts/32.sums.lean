/-! totals, comparisons, counts -/
section RS
variable {σ τ : St} {n m u v : Nat}
theorem R.then (h : R σ τ n m u v) (a b c : Int32) : fX6_then σ a b c = fX7_then τ a b c := by
  have hv : v ≤ 200 := h.1.2.2.2
  have v3 := h.2.1.2.2.1
  have v4 := h.2.1.2.2.2.1
  unfold fX6_then fX7_then
  rw [cl_nI v3 (by omega), cl_nI v4 (by omega), e_isMark σ τ, e_isAnswer σ τ, e_isDay σ τ]
  by_cases c0 : fX7_isAsked τ a b c = 0
  · have e1 : ∀ k i, flX7_then_6 τ a b c k i 0 = 0 := by
      intro k i
      cases k with
      | zero => rfl
      | succ k => rw [flX7_then_6, if_pos c0]
    rw [e1]
    unfold fX7_isAsked at c0
    by_cases c1 : fX7_isIn τ a 0 3 = 0
    · rw [if_pos c1]
    · rw [if_neg c1]
      rw [if_neg c1] at c0
      by_cases c2 : fX7_isIn τ b 0 100 = 0
      · rw [if_pos c2]
      · rw [if_neg c2]
        rw [if_neg c2] at c0
        by_cases c3 : fX7_isIn τ c 0 2000 = 0
        · rw [if_pos c3]
        · rw [if_neg c3] at c0
          exact absurd c0 (by decide)
  · have key : ∀ (k i : Nat) (tot : Int64), i + k = v → flX6_then_29 σ a b c k i tot = flX7_then_6 τ a b c k i tot := by
      intro k
      induction k with
      | zero => intro i tot _; rfl
      | succ k ih =>
        intro i tot hi
        rw [flX6_then_29, flX7_then_6, if_neg c0, ih (i + 1) tot (by omega), ih (i + 1) (tot + _) (by omega), h.knownF (by omega)]
        unfold fX6_isMarkedThen
        rw [nI_clamp (by omega), h.living, h.value, h.2.2.1 15 (by omega), h.2.2.1 16 (by omega), h.2.2.1 17 (by omega)]
        by_cases c1 : fX7_isKnown τ (τ.1 18 i) (τ.1 19 i) c = 0
        · simp [c1]
        · by_cases c2 : fX7_living τ (τ.1 15 i) (τ.1 16 i) c = -1
          · simp [c1, c2]
          · by_cases c3 : fX7_valueOf τ (fX7_living τ (τ.1 15 i) (τ.1 16 i) c) a (τ.1 16 i) c = b
            · simp [c1, c2, c3]
            · simp [c1, c2, c3]
    unfold fX7_isAsked at c0
    by_cases c1 : fX7_isIn τ a 0 3 = 0
    · rw [if_pos c1] at c0; exact absurd rfl c0
    · rw [if_neg c1] at c0 ⊢
      by_cases c2 : fX7_isIn τ b 0 100 = 0
      · rw [if_pos c2] at c0; exact absurd rfl c0
      · rw [if_neg c2] at c0 ⊢
        by_cases c3 : fX7_isIn τ c 0 2000 = 0
        · rw [if_pos c3] at c0; exact absurd rfl c0
        · rw [if_neg c3]
          exact key v 0 0 (by omega)
theorem R.sumF (h : R σ τ n m u v) (a d c : Int32) (w : Int32) (hw : (a = 0 ↔ w = 0)) : fX6_sumOfFacts σ c w = flX7_sum_45 τ a d c (τ.2.1 2).toNatClampNeg 0 0 := by
  have hv : v ≤ 200 := h.1.2.2.2
  have v3 := h.2.1.2.2.1
  have v4 := h.2.1.2.2.2.1
  have key : ∀ (k i : Nat) (tot : Int64), i + k = v → flX6_sumOfFacts_5 σ c w k i tot = flX7_sum_45 τ a d c k i tot := by
    intro k
    induction k with
    | zero => intro i tot _; rfl
    | succ k ih =>
      intro i tot hi
      rw [flX6_sumOfFacts_5, flX7_sum_45, ih (i + 1) tot (by omega), ih (i + 1) (tot + _) (by omega), h.knownF (by omega), nI_clamp (by omega), h.living, h.2.2.1 15 (by omega), h.2.2.1 16 (by omega), h.2.2.1 17 (by omega), Int64.add_zero]
      by_cases c1 : a = 0
      · simp [c1, hw.mp c1]
      · have c2 : ¬ w = 0 := fun q => c1 (hw.mpr q)
        simp [c1, c2]
  unfold fX6_sumOfFacts
  rw [cl_nI v3 (by omega), cl_nI v4 (by omega)]
  exact key v 0 0 (by omega)
theorem R.compare (h : R σ τ n m u v) (a d e k w : Int32) : fX6_compare σ a d e k w = fX7_compare τ a d e k w := by
  have hn : n ≤ 40 := h.1.1
  have v1 := h.2.1.1
  have v2 := h.2.1.2.1
  unfold fX6_compare fX7_compare
  rw [e_isMark σ τ, e_isDay σ τ, e_isDay σ τ, e_isDay σ τ]
  by_cases c1 : fX7_isIn τ a 0 3 = 0
  · simp [c1]
  by_cases c2 : fX7_isIn τ d 0 2000 = 0
  · simp [c2]
  by_cases c3 : fX7_isIn τ e 0 2000 = 0
  · simp [c3]
  by_cases c4 : fX7_isIn τ k 0 2000 = 0
  · simp [c4]
  simp only [c1, c2, c3, c4, if_false]
  have o0 : fX7_one τ 0 = 0 := rfl
  have o1 : fX7_one τ 1 = 1 := rfl
  have bl : ∀ i x y, ¬ fX7_lives τ i x y = 0 → fX7_lives τ i x y = 1 := by
    intro i x y c
    unfold fX7_lives at c ⊢
    split
    · rename_i q; rw [if_pos q] at c; exact absurd rfl c
    · rename_i q
      rw [if_neg q] at c
      split
      · rename_i q; rw [if_pos q] at c; exact absurd rfl c
      · rename_i q
        rw [if_neg q] at c
        split
        · rename_i q; rw [if_pos q] at c; exact absurd rfl c
        · rfl
  by_cases w0 : w = 0
  · subst w0
    have key : ∀ (j i : Nat) (x : Int32), i + j = n → flX6_countLiving_6 σ d 1 e 1 k j i x = flX7_compare_47 τ a d e k 0 j i x := by
      intro j
      induction j with
      | zero => intro i x _; rfl
      | succ j ih =>
        intro i x hi
        rw [flX6_countLiving_6, flX7_compare_47, ih (i + 1) x (by omega), ih (i + 1) (x + 1) (by omega), h.lives (by omega), h.lives (by omega), o0, o1, Int32.add_zero]
        by_cases q1 : fX7_lives τ (nI i) d k = 0
        · simp [q1]
        · by_cases q2 : fX7_lives τ (nI i) e k = 0
          · simp [q2, bl _ _ _ q1]
          · simp [bl _ _ _ q1, bl _ _ _ q2]
    have : ¬ fX7_isIn τ 0 0 3 = 0 := by unfold fX7_isIn; decide
    simp only [this, if_true, if_false]
    unfold fX6_countLiving
    rw [cl_nI v1 (by omega), cl_nI v2 (by omega)]
    exact key n 0 0 (by omega)
  by_cases w1 : w = 1
  · subst w1
    have key : ∀ (j i : Nat) (x : Int32), i + j = n → flX6_countLiving_6 σ d 0 e 1 k j i x = flX7_compare_47 τ a d e k 1 j i x := by
      intro j
      induction j with
      | zero => intro i x _; rfl
      | succ j ih =>
        intro i x hi
        rw [flX6_countLiving_6, flX7_compare_47, ih (i + 1) x (by omega), ih (i + 1) (x + 1) (by omega), h.lives (by omega), h.lives (by omega), o0, o1, Int32.add_zero]
        by_cases q1 : fX7_lives τ (nI i) d k = 0
        · by_cases q2 : fX7_lives τ (nI i) e k = 0
          · simp [q1, q2]
          · simp [q1, bl _ _ _ q2]
        · by_cases q2 : fX7_lives τ (nI i) e k = 0
          · simp [q2, bl _ _ _ q1]
          · simp [bl _ _ _ q1, bl _ _ _ q2]
    have : ¬ fX7_isIn τ 1 0 3 = 0 := by unfold fX7_isIn; decide
    simp only [this, w0, if_true, if_false]
    unfold fX6_countLiving
    rw [cl_nI v1 (by omega), cl_nI v2 (by omega)]
    exact key n 0 0 (by omega)
  by_cases w2 : w = 2
  · subst w2
    have key : ∀ (j i : Nat) (x : Int32), i + j = n → flX6_countLiving_6 σ d 1 e 0 k j i x = flX7_compare_47 τ a d e k 2 j i x := by
      intro j
      induction j with
      | zero => intro i x _; rfl
      | succ j ih =>
        intro i x hi
        rw [flX6_countLiving_6, flX7_compare_47, ih (i + 1) x (by omega), ih (i + 1) (x + 1) (by omega), h.lives (by omega), h.lives (by omega), o0, o1, Int32.add_zero]
        by_cases q1 : fX7_lives τ (nI i) d k = 0
        · by_cases q2 : fX7_lives τ (nI i) e k = 0
          · simp [q1, q2]
          · simp [q1, bl _ _ _ q2]
        · by_cases q2 : fX7_lives τ (nI i) e k = 0
          · simp [q2, bl _ _ _ q1]
          · simp [bl _ _ _ q1, bl _ _ _ q2]
    have : ¬ fX7_isIn τ 2 0 3 = 0 := by unfold fX7_isIn; decide
    simp only [this, w0, w1, if_true, if_false]
    unfold fX6_countLiving
    rw [cl_nI v1 (by omega), cl_nI v2 (by omega)]
    exact key n 0 0 (by omega)
  by_cases w3 : w = 3
  · subst w3
    have key : ∀ (j i : Nat) (x : Int32), i + j = n → flX6_countMoved_6 σ a d e k j i x = flX7_compare_47 τ a d e k 3 j i x := by
      intro j
      induction j with
      | zero => intro i x _; rfl
      | succ j ih =>
        intro i x hi
        rw [flX6_countMoved_6, flX7_compare_47, ih (i + 1) x (by omega), ih (i + 1) (x + 1) (by omega), h.lives (by omega), h.lives (by omega), h.value, h.value, o0, o1, Int32.add_zero]
        by_cases q1 : fX7_lives τ (nI i) d k = 0
        · simp [q1]
        · by_cases q2 : fX7_lives τ (nI i) e k = 0
          · simp [q2, bl _ _ _ q1]
          · simp [bl _ _ _ q1, bl _ _ _ q2]
    have : ¬ fX7_isIn τ 3 0 3 = 0 := by unfold fX7_isIn; decide
    simp only [this, w0, w1, w2, if_true, if_false]
    unfold fX6_countMoved
    rw [cl_nI v1 (by omega), cl_nI v2 (by omega)]
    exact key n 0 0 (by omega)
  · have : fX7_isIn τ w 0 3 = 0 := by
      unfold fX7_isIn
      split
      · rfl
      · rename_i q
        split
        · rfl
        · rename_i q2
          have k3 : (3 : Int32).toInt = 3 := rfl
          have k2 : (2 : Int32).toInt = 2 := rfl
          rw [t_lt, k_0] at q
          rw [t_lt, k3] at q2
          rw [t_eq, k_0] at w0
          rw [t_eq, k_1] at w1
          rw [t_eq, k2] at w2
          rw [t_eq, k3] at w3
          omega
    simp only [w0, w1, w2, w3, this, if_true, if_false]
theorem cnt_eq (τ : St) (a : Int32) : ∀ (k i : Nat) (x : Int32), flX7_count_69 τ a k i x = cnt (τ.1 20) k i x := by
  intro k
  induction k with
  | zero => intro i x; rfl
  | succ k ih =>
    intro i x
    have o0 : fX7_one τ 0 = 0 := rfl
    have o1 : fX7_one τ 1 = 1 := rfl
    rw [flX7_count_69, cnt, ih, ih, o0, o1, Int32.add_zero]
theorem R.count (h : R σ τ n m u v) (a : Int32) : fX6_count σ a = fX7_count τ a := by
  obtain ⟨⟨b1, b2, b3, b4⟩, ⟨v1, v2, v3, v4, v5, v6, v7, v8, v9, v10, v11⟩, ha, ⟨l1, l2, l3, l4, l5⟩, -⟩ := h
  have e : (40 : Int32).toNatClampNeg = 40 := by decide
  unfold fX6_count fX7_count
  rw [cnt_eq, e, v1, v2, v3, v4, v5, v6, v7, v8, v9, l5, nI_pred]
end RS
