/-! the questions that change nothing: both sides answer alike -/
section RA
variable {σ τ : St} {n m u v : Nat}
theorem nb_isKnown (τ : St) (a b c : Int32) : fX7_isKnown τ a b c = 0 ∨ fX7_isKnown τ a b c = 1 := b_X7_isKnown τ a b c
theorem R.value (h : R σ τ n m u v) (t mk d k : Int32) : fX4_valueOn σ t mk d k = fX7_valueOf τ t mk d k := by
  have key : ∀ (j i : Nat) (best : Int32), i + j = u → (best = -1 ∨ ∃ b, b < u ∧ best = nI b) → flX4_valueOn_6 σ t mk d k j i best = flX7_valueOf_6 τ t mk d k j i best := by
    intro j
    induction j with
    | zero =>
      intro i best _ _
      rw [flX4_valueOn_6, flX7_valueOf_6, h.2.2.1 12 (by omega)]
    | succ j ih =>
      intro i best hi hb
      have hu : u ≤ 300 := h.1.2.2.1
      have i1 := ih (i + 1) best (by omega) hb
      have i2 := ih (i + 1) (nI i) (by omega) (Or.inr ⟨i, by omega, rfl⟩)
      rw [flX4_valueOn_6, flX7_valueOf_6, h.knownT (by omega), i1, i2]
      unfold fX4_isOf fX7_isTelling fX4_outdoes
      rw [nI_clamp (by omega), h.2.2.1 9 (by omega), h.2.2.1 10 (by omega), h.2.2.1 11 (by omega)]
      by_cases c1 : τ.1 9 i = t
      · by_cases c2 : τ.1 10 i = mk
        · by_cases c3 : fX7_isKnown τ (τ.1 13 i) (τ.1 14 i) k = 0
          · simp [c1, c2, c3]
          · simp only [c1, c2, c3, if_true, if_false]
            by_cases c4 : 1 < mk
            · have c5 : ¬ mk ≤ 1 := by rw [t_le]; rw [t_lt] at c4; omega
              have c6 : ¬ mk < 2 := by rw [t_lt]; rw [t_lt] at c4; have : (2 : Int32).toInt = 2 := rfl; have : (1 : Int32).toInt = 1 := rfl; omega
              by_cases c7 : d < τ.1 11 i
              · have c8 : ¬ τ.1 11 i ≤ d := by rw [t_le]; rw [t_lt] at c7; omega
                simp [c4, c5, c7, c8]
              · have c8 : τ.1 11 i ≤ d := by rw [t_le]; rw [t_lt] at c7; omega
                by_cases c9 : best = -1
                · simp [c4, c5, c7, c8, c9]
                · by_cases c10 : τ.1 11 i < τ.1 11 best.toNatClampNeg
                  · simp [c4, c5, c6, c7, c8, c9, c10]
                  · simp [c4, c5, c6, c7, c8, c9, c10]
            · have c5 : mk ≤ 1 := by rw [t_le]; rw [t_lt] at c4; omega
              have c6 : mk < 2 := by rw [t_lt]; rw [t_le] at c5; have : (2 : Int32).toInt = 2 := rfl; have : (1 : Int32).toInt = 1 := rfl; omega
              by_cases c9 : best = -1
              · simp [c4, c5, c9]
              · simp [c4, c5, c6, c9]
        · simp [c1, c2]
      · simp [c1]
  obtain ⟨⟨b1, b2, b3, b4⟩, ⟨v1, v2, v3, v4, v5, v6, -⟩, -⟩ := h
  unfold fX4_valueOn fX7_valueOf
  rw [cl_nI v5 (by omega), cl_nI v6 (by omega)]
  exact key u 0 (-1) (by omega) (Or.inl rfl)
theorem R.turns (h : R σ τ n m u v) (t k : Int32) : fX4_timesToldOver σ t k = fX7_turns τ t k := by
  have key : ∀ (j i : Nat) (c a b : Int32), i + j = u → ((a = 100 ∧ b = -1) ∨ (a = b ∧ 0 ≤ a.toInt ∧ a.toInt ≤ 99)) → flX4_timesToldOver_9 σ t k j i c a = flX7_turns_8 τ t k j i c b := by
    intro j
    induction j with
    | zero => intro i c a b _ _; rfl
    | succ j ih =>
      intro i c a b hi hab
      have hu : u ≤ 300 := h.1.2.2.1
      have hm := h.2.2.2.2.1 i (by omega)
      have i1 := ih (i + 1) c a b (by omega) hab
      have i2 := ih (i + 1) c (τ.1 12 i) (τ.1 12 i) (by omega) (Or.inr ⟨rfl, hm⟩)
      have i3 := ih (i + 1) (c + 1) (τ.1 12 i) (τ.1 12 i) (by omega) (Or.inr ⟨rfl, hm⟩)
      rw [flX4_timesToldOver_9, flX7_turns_8, h.knownT (by omega), h.2.2.1 12 (by omega), i1, i2, i3]
      have o0 : fX7_one τ 0 = 0 := rfl
      have o1 : fX7_one τ 1 = 1 := rfl
      rw [o0, o1, Int32.add_zero]
      unfold fX4_isOf fX7_isTelling
      rw [nI_clamp (by omega), h.2.2.1 9 (by omega), h.2.2.1 10 (by omega)]
      by_cases c1 : τ.1 9 i = t
      · by_cases c2 : τ.1 10 i = 1
        · by_cases c3 : fX7_isKnown τ (τ.1 13 i) (τ.1 14 i) k = 0
          · simp [c1, c2, c3]
          · simp only [c1, c2, c3, if_true, if_false]
            rcases hab with ⟨rfl, rfl⟩ | ⟨rfl, h1, h2⟩
            · simp
            · have c4 : ¬ a = 100 := by rw [t_eq, k_100]; omega
              have c5 : ¬ a = -1 := by rw [t_eq, k_m1]; omega
              by_cases c6 : a = τ.1 12 i
              · have c7 : τ.1 12 i = a := c6.symm
                simp [c4, c5, c7]
              · have c7 : ¬ τ.1 12 i = a := fun q => c6 q.symm
                simp [c4, c5, c6, c7]
        · simp [c1, c2]
      · simp [c1]
  obtain ⟨⟨b1, b2, b3, b4⟩, ⟨v1, v2, v3, v4, v5, v6, -⟩, -⟩ := h
  unfold fX4_timesToldOver fX7_turns
  rw [cl_nI v5 (by omega), cl_nI v6 (by omega)]
  exact key u 0 0 100 (-1) (by omega) (Or.inl ⟨rfl, rfl⟩)
theorem taken1 (τ : St) (a d x y : Int32) : ∀ (k i : Nat), flX7_isTaken_6 τ a d x y k i 1 = 1 := by
  intro k
  induction k with
  | zero => intro i; rfl
  | succ k ih => intro i; rw [flX7_isTaken_6, if_neg (by decide)]; exact ih _
theorem R.taken (h : R σ τ n m u v) (a d x y : Int32) (hx : ∀ t, t < n → nI t = x → (τ.1 1 t).toInt < d.toInt) (hy : ∀ t, t < n → nI t = y → (τ.1 1 t).toInt < d.toInt) : fX5_isTaken σ a d x y = fX7_isTaken τ a d x y := by
  have key : ∀ (k i : Nat), i + k = n → flX5_isTaken_3 σ a d x y k i = flX7_isTaken_6 τ a d x y k i 0 := by
    intro k
    induction k with
    | zero => intro i _; rfl
    | succ k ih =>
      intro i hi
      have hn : n ≤ 40 := h.1.1
      have i1 := ih (i + 1) (by omega)
      have d2 := h.2.1.2.2.2.2.2.2.2.2.2.2
      obtain ⟨-, t2, t3, t4⟩ := h.2.2.2.2.2.1 i (by omega)
      rw [flX5_isTaken_3, flX7_isTaken_6, if_pos rfl, taken1, i1, h.2.2.1 0 (by omega), h.2.2.1 3 (by omega)]
      by_cases c1 : τ.1 0 i = a
      · by_cases cx : nI i = x
        · have c2 : ¬ d < τ.1 1 i := by rw [t_lt]; have := hx i (by omega) cx; omega
          simp [c1, cx, c2]
        · by_cases cy : nI i = y
          · have c2 : ¬ d < τ.1 1 i := by rw [t_lt]; have := hy i (by omega) cy; omega
            simp [c1, cx, cy, c2]
          · have e : fX7_endBy τ (nI i) (τ.2.1 0) = τ.1 3 i := by
              unfold fX7_endBy
              rw [nI_clamp (by omega)]
              rcases t4 with ⟨e1, e2⟩ | ⟨e1, e2, e3⟩
              · rw [if_pos (by rw [e1, t_lt, k_2001]; omega), e2]
              · rw [if_neg (by rw [t_lt]; omega)]
            have e2 : fX7_lives τ (nI i) d (τ.2.1 0) = if d < τ.1 1 i then 0 else (if τ.1 3 i ≤ d then 0 else 1) := by
              unfold fX7_lives
              rw [e, nI_clamp (by omega), if_neg (by rw [t_lt]; omega)]
            rw [e2]
            by_cases c2 : d < τ.1 1 i
            · have c3 : ¬ τ.1 3 i ≤ d := by rw [t_le]; rw [t_lt] at c2; omega
              simp [c1, cx, cy, c2, c3]
            · by_cases c3 : τ.1 3 i ≤ d
              · simp [c1, cx, cy, c2, c3]
              · simp [c1, cx, cy, c2, c3]
      · simp [c1]
  obtain ⟨⟨b1, b2, b3, b4⟩, ⟨v1, v2, -⟩, -⟩ := h
  unfold fX5_isTaken fX7_isTaken
  rw [cl_nI v1 (by omega), cl_nI v2 (by omega)]
  exact key n 0 (by omega)
theorem R.told (h : R σ τ n m u v) (a b c d : Int32) : fX6_told σ a b c d = fX7_told τ a b c d := by
  unfold fX6_told fX7_told fX5_isKnown
  rw [e_isMark σ τ, e_isDay σ τ, e_isDay σ τ, h.has, h.value, h.2.2.1 2 (by omega)]
  by_cases c1 : fX7_isIn τ a 0 (τ.2.1 1 - 1) = 0 <;> by_cases c2 : fX7_isIn τ b 0 3 = 0 <;> by_cases c3 : fX7_isIn τ c 0 2000 = 0 <;> by_cases c4 : fX7_isIn τ d 0 2000 = 0 <;> by_cases c5 : d < τ.1 2 a.toNatClampNeg <;> simp [c1, c2, c3, c4, c5]
theorem R.thing (h : R σ τ n m u v) (a b c : Int32) : fX6_thing σ a b c = fX7_thing τ a b c := by
  unfold fX6_thing fX7_thing fX5_isKnown fX5_endOf fX5_endingOf fX5_heirOf fX5_isEndKnown fX7_endBy
  rw [e_isDay σ τ, h.has, h.turns, h.2.2.1 0 (by omega), h.2.2.1 1 (by omega), h.2.2.1 2 (by omega), h.2.2.1 3 (by omega), h.2.2.1 4 (by omega), h.2.2.1 5 (by omega), h.2.2.1 6 (by omega)]
  by_cases c1 : fX7_isIn τ a 0 (τ.2.1 1 - 1) = 0
  · simp [c1]
  · by_cases c2 : fX7_isIn τ b 0 2000 = 0
    · simp [c2]
    · by_cases c3 : b < τ.1 2 a.toNatClampNeg
      · have c4 : ¬ τ.1 2 a.toNatClampNeg ≤ b := by rw [t_le]; rw [t_lt] at c3; omega
        simp [c1, c2, c3, c4]
      · have c4 : τ.1 2 a.toNatClampNeg ≤ b := by rw [t_le]; rw [t_lt] at c3; omega
        by_cases c5 : b < τ.1 4 a.toNatClampNeg
        · simp [c1, c2, c3, c4, c5]
        · simp [c1, c2, c3, c4, c5]
theorem R.hangs (h : R σ τ n m u v) (a b : Int32) : fX6_hangs σ a b = fX7_hangs τ a b := by
  unfold fX6_hangs fX7_hangs
  rw [e_isDay σ τ, h.living, h.2.2.1 15 (by omega), h.2.2.1 16 (by omega)]
  have v3 := h.2.1.2.2.1
  have v4 := h.2.1.2.2.2.1
  have b4 : v ≤ 200 := h.1.2.2.2
  by_cases c2 : fX7_isIn τ b 0 2000 = 0
  · simp [c2]
  · by_cases c1 : fX7_isIn τ a 0 (τ.2.1 2 - 1) = 0
    · have : fX3_isKnown_F σ a b = 0 := by
        unfold fX7_isIn at c1
        unfold fX3_isKnown_F
        split at c1
        · rename_i q; rw [if_pos q]
        · rename_i q
          split at c1
          · rename_i q2
            rw [if_neg q, if_pos]
            rw [v3]
            rw [v4] at q2
            exact (e_size rfl (by omega) q).mpr q2
          · exact absurd c1 (by decide)
      simp [c1, this]
    · have hv := isIn_in (N := 200) (szI_nI v4 b4 (by decide)) (by decide) c1
      rw [cl_nI v4 (by omega)] at hv
      obtain ⟨j, hj, rfl⟩ := vp_in_of hv (by omega)
      rw [h.knownF hj, nI_clamp (by omega)]
      simp [c1, c2]
theorem R.find (h : R σ τ n m u v) (a b c : Int32) : fX6_find σ a b c = fX7_find τ a b c := by
  unfold fX6_find fX7_find
  rw [e_isDay σ τ, e_isDay σ τ, h.living]
  by_cases c1 : fX6_isCode σ a = 0
  · have : fX7_living τ a b c = -1 := by
      unfold fX7_living
      rw [cl_nI h.2.1.2.1 (by have := h.1.1; omega)]
      have key : ∀ (k i : Nat), i + k = n → flX7_living_3 τ a b c k i = -1 := by
        intro k
        induction k with
        | zero => intro i _; rfl
        | succ k ih =>
          intro i hi
          obtain ⟨⟨t1, t2⟩, -⟩ := h.2.2.2.2.2.1 i (by omega)
          have : ¬ τ.1 0 i = a := by
            intro q
            unfold fX6_isCode at c1
            rw [q] at t1 t2
            rw [if_neg (by rw [t_lt, k_0]; omega), if_neg (by rw [t_lt, k_99]; omega)] at c1
            exact absurd c1 (by decide)
          rw [flX7_living_3, if_neg this]
          exact ih _ (by omega)
      exact key n 0 (by omega)
    simp [c1, this]
  · simp [c1]
end RA
