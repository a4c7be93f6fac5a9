/-! THE RELATION of the class's state σ and the reference's state τ, and the answers that depend on no change. -/
theorem t_lt {a b : Int32} : a < b ↔ a.toInt < b.toInt := Int32.lt_iff_toInt_lt
theorem t_le {a b : Int32} : a ≤ b ↔ a.toInt ≤ b.toInt := Int32.le_iff_toInt_le
theorem t_eq {a b : Int32} : a = b ↔ a.toInt = b.toInt := Int32.toInt_inj.symm
theorem k_0 : (0 : Int32).toInt = 0 := rfl
theorem k_1 : (1 : Int32).toInt = 1 := rfl
theorem k_99 : (99 : Int32).toInt = 99 := rfl
theorem k_100 : (100 : Int32).toInt = 100 := rfl
theorem k_2000 : (2000 : Int32).toInt = 2000 := rfl
theorem k_2001 : (2001 : Int32).toInt = 2001 := rfl
theorem k_m1 : (-1 : Int32).toInt = -1 := rfl
theorem pred_toInt {n : Nat} (h : n ≤ 1000) : (nI n - 1).toInt = (n : Int) - 1 := by
  cases n with
  | zero => rfl
  | succ n => rw [nI_pred, nI_toInt (by omega)]; omega
def cnt (f : Nat → Int32) : Nat → Nat → Int32 → Int32
  | 0, _, n => n
  | k + 1, i, n => if f i = 2001 then cnt f k (i + 1) n else cnt f k (i + 1) (n + 1)
def Rb (n m u v : Nat) : Prop := n ≤ 40 ∧ m ≤ 39 ∧ u ≤ 300 ∧ v ≤ 200
def Rv (σ τ : St) (n m u v : Nat) : Prop := σ.2.1 1 = nI n ∧ τ.2.1 1 = nI n ∧ σ.2.1 2 = nI v ∧ τ.2.1 2 = nI v ∧ σ.2.1 3 = nI u ∧ τ.2.1 3 = nI u ∧ σ.2.1 4 = nI (m + 1) ∧ τ.2.1 4 = nI m ∧ σ.2.1 0 = τ.2.1 0 ∧ 0 ≤ (τ.2.1 0).toInt ∧ (τ.2.1 0).toInt ≤ 2000
def Ra (σ τ : St) : Prop := ∀ k, (k < 7 ∨ (9 ≤ k ∧ k < 20)) → σ.1 k = τ.1 k
def Rl (σ τ : St) (m u v : Nat) : Prop := (∀ l, l ≤ m → σ.1 20 l = τ.1 20 l) ∧ (∀ l, m < l → l < 40 → τ.1 20 l = 2001) ∧ (∀ j, j < u → vp_in (τ.1 14 j) (m + 1)) ∧ (∀ j, j < v → vp_in (τ.1 19 j) (m + 1)) ∧ σ.2.1 5 = cnt (τ.1 20) 40 0 0
def Rm (τ : St) (u : Nat) : Prop := ∀ j, j < u → 0 ≤ (τ.1 12 j).toInt ∧ (τ.1 12 j).toInt ≤ 99
def Rt (τ : St) (n : Nat) : Prop := ∀ t, t < n → (0 ≤ (τ.1 0 t).toInt ∧ (τ.1 0 t).toInt ≤ 99) ∧ (τ.1 1 t).toInt < (τ.1 3 t).toInt ∧ (τ.1 2 t).toInt ≤ (τ.2.1 0).toInt ∧ ((τ.1 4 t = 2001 ∧ τ.1 3 t = 2001) ∨ ((τ.1 4 t).toInt ≤ (τ.2.1 0).toInt ∧ (τ.1 2 t).toInt ≤ (τ.1 4 t).toInt ∧ (τ.1 3 t).toInt ≤ 2000))
def Rh (σ τ : St) (n : Nat) : Prop := (∀ t, t < n → (τ.1 5 t = 2 → (σ.1 7 t = τ.1 7 t ∧ σ.1 8 t = τ.1 8 t ∧ 1 ≤ τ.1 8 t) ∧ ∃ h, τ.1 6 t = nI h ∧ t < h ∧ h + 1 < n) ∧ (τ.1 5 t = 3 → ∃ h, τ.1 6 t = nI h ∧ t < h ∧ h < n)) ∧ (∀ t, n ≤ t → τ.1 5 t = 0)
def R (σ τ : St) (n m u v : Nat) : Prop := Rb n m u v ∧ Rv σ τ n m u v ∧ Ra σ τ ∧ Rl σ τ m u v ∧ Rm τ u ∧ Rt τ n ∧ Rh σ τ n
theorem szI_nI {x : Int32} {n N : Nat} (h : x = nI n) (hn : n ≤ N) (hN : N < 2 ^ 31) : szI x N := by
  subst h
  refine ⟨?_, ?_⟩
  · rw [nI_clamp (by omega)]
  · rw [nI_clamp (by omega)]; exact hn
theorem cl_nI {x : Int32} {n : Nat} (h : x = nI n) (hn : n ≤ 1000) : x.toNatClampNeg = n := by
  subst h
  exact nI_clamp (by omega)
section RR
variable {σ τ : St} {n m u v : Nat}
theorem R.IBc (h : R σ τ n m u v) : IB σ := by
  obtain ⟨⟨b1, b2, b3, b4⟩, ⟨v1, v2, v3, v4, v5, v6, v7, v8, v9, v10, v11⟩, ha, ⟨l1, l2, l3, l4, l5⟩, -, -, -⟩ := h
  refine ⟨szI_nI v1 b1 (by decide), szI_nI v3 b4 (by decide), szI_nI v5 b3 (by decide), szI_nI v7 (by omega) (by decide), ?_, ?_⟩
  · intro j hj
    rw [cl_nI v5 (by omega)] at hj
    rw [ha 14 (by omega)]
    exact vp_in_mono (l3 j hj) (by omega)
  · intro j hj
    rw [cl_nI v3 (by omega)] at hj
    rw [ha 19 (by omega)]
    exact vp_in_mono (l4 j hj) (by omega)
theorem R.IBm (h : R σ τ n m u v) : IB τ := by
  obtain ⟨⟨b1, b2, b3, b4⟩, ⟨v1, v2, v3, v4, v5, v6, v7, v8, v9, v10, v11⟩, ha, ⟨l1, l2, l3, l4, l5⟩, -, -, -⟩ := h
  refine ⟨szI_nI v2 b1 (by decide), szI_nI v4 b4 (by decide), szI_nI v6 b3 (by decide), szI_nI v8 (by omega) (by decide), ?_, ?_⟩
  · intro j hj
    rw [cl_nI v6 (by omega)] at hj
    exact vp_in_mono (l3 j hj) (by omega)
  · intro j hj
    rw [cl_nI v4 (by omega)] at hj
    exact vp_in_mono (l4 j hj) (by omega)
theorem R.HMm (h : R σ τ n m u v) : HM τ := by
  obtain ⟨⟨b1, b2, b3, b4⟩, ⟨v1, v2, v3, v4, v5, v6, v7, v8, v9, v10, v11⟩, ha, -, -, -, ⟨hh, -⟩⟩ := h
  intro t ht
  rw [cl_nI v2 (by omega)] at ht ⊢
  refine ⟨fun c => ?_, fun c => (hh t ht).2 c⟩
  obtain ⟨⟨-, -, c3⟩, r⟩ := (hh t ht).1 c
  exact ⟨ge1_ne c3, r⟩
/-- it depends on the arrays and on the first six numbers alone -/
theorem R.congr {σ' : St} (h : R σ τ n m u v) (h1 : σ'.1 = σ.1) (h2 : ∀ k, k < 6 → σ'.2.1 k = σ.2.1 k) : R σ' τ n m u v := by
  unfold R Rv Ra Rl Rh at h ⊢
  rw [h1, h2 0 (by omega), h2 1 (by omega), h2 2 (by omega), h2 3 (by omega), h2 4 (by omega), h2 5 (by omega)]
  exact h
theorem e_isDay (σ τ : St) (x : Int32) : fX6_isDay σ x = fX7_isIn τ x 0 2000 := rfl
theorem e_isCode (σ τ : St) (x : Int32) : fX6_isCode σ x = fX7_isIn τ x 0 99 := rfl
theorem e_isMark (σ τ : St) (x : Int32) : fX6_isMark σ x = fX7_isIn τ x 0 3 := rfl
theorem e_isAnswer (σ τ : St) (x : Int32) : fX6_isAnswer σ x = fX7_isIn τ x 0 100 := rfl
theorem e_size {x z : Int32} {n : Nat} (hz : z = nI n) (hn : n ≤ 1000) (h0 : ¬ x < 0) : z ≤ x ↔ z - 1 < x := by
  subst hz
  rw [t_le, t_lt, pred_toInt hn, nI_toInt (by omega)]
  omega
theorem R.has (h : R σ τ n m u v) (x : Int32) : fX5_has σ x = fX7_isIn τ x 0 (τ.2.1 1 - 1) := by
  obtain ⟨⟨b1, b2, b3, b4⟩, ⟨v1, v2, -⟩, -⟩ := h
  unfold fX5_has fX7_isIn
  rw [v1, v2]
  split
  · rfl
  · rename_i c
    simp only [e_size (x := x) rfl (show n ≤ 1000 by omega) c]
theorem R.has1 (h : R σ τ n m u v) {t : Nat} (ht : t < n) : fX5_has σ (nI t) = 1 := by
  obtain ⟨⟨b1, b2, b3, b4⟩, ⟨v1, v2, -⟩, -⟩ := h
  unfold fX5_has
  rw [v1, if_neg (nI_pos (by omega)), if_neg (nI_ge ht (by omega))]
theorem R.has_of (h : R σ τ n m u v) {x : Int32} (c : ¬ fX5_has σ x = 0) : ∃ t, t < n ∧ x = nI t := by
  have h1 := has_in h.IBc c
  obtain ⟨⟨b1, b2, b3, b4⟩, ⟨v1, v2, -⟩, -⟩ := h
  rw [cl_nI v1 (by omega)] at h1
  exact vp_in_of h1 (by omega)
theorem R.lives (h : R σ τ n m u v) {t : Nat} (ht : t < n) (d k : Int32) : fX5_livesOn σ (nI t) d k = fX7_lives τ (nI t) d k := by
  have h1 := h.has1 ht
  obtain ⟨-, -, ha, -⟩ := h
  unfold fX5_livesOn fX5_isKnown fX7_lives fX5_endOf fX5_isEndKnown fX7_endBy
  rw [h1, ha 1 (by omega), ha 2 (by omega), ha 3 (by omega), ha 4 (by omega)]
  by_cases c1 : k < τ.1 2 (nI t).toNatClampNeg <;> by_cases c2 : k < τ.1 4 (nI t).toNatClampNeg <;> simp [c1, c2]
theorem b_lives (σ : St) (a b c : Int32) : fX5_livesOn σ a b c = 0 ∨ fX5_livesOn σ a b c = 1 := by
  unfold fX5_livesOn
  repeat' split
  all_goals first | exact Or.inl rfl | exact Or.inr rfl
theorem R.living (h : R σ τ n m u v) (a d e : Int32) : fX5_livingOn σ a d e = fX7_living τ a d e := by
  have key : ∀ (k i : Nat), i + k = n → flX5_livingOn_3 σ a d e k i = flX7_living_3 τ a d e k i := by
    intro k
    induction k with
    | zero => intro i _; rfl
    | succ k ih =>
      intro i hi
      rw [flX5_livingOn_3, flX7_living_3, h.lives (by omega), h.2.2.1 0 (by omega), ih (i + 1) (by omega)]
  obtain ⟨⟨b1, b2, b3, b4⟩, ⟨v1, v2, -⟩, -⟩ := h
  unfold fX5_livingOn fX7_living
  rw [cl_nI v1 (by omega), cl_nI v2 (by omega)]
  exact key n 0 (by omega)
theorem R.knownT (h : R σ τ n m u v) {i : Nat} (hi : i < u) (k : Int32) : fX3_isKnown_T σ (nI i) k = fX7_isKnown τ (τ.1 13 i) (τ.1 14 i) k := by
  obtain ⟨⟨b1, b2, b3, b4⟩, ⟨v1, v2, v3, v4, v5, -⟩, ha, ⟨l1, l2, l3, l4, l5⟩, -⟩ := h
  have e := vp_in_lt (l3 i hi)
  unfold fX3_isKnown_T fX7_isKnown fX2_isUndone
  rw [v5, if_neg (nI_pos (by omega)), if_neg (nI_ge hi (by omega)), nI_clamp (by omega), ha 13 (by omega), ha 14 (by omega), l1 _ (show (τ.1 14 i).toNatClampNeg ≤ m by omega)]
  by_cases c1 : k < τ.1 13 i
  · rw [if_pos c1, if_pos c1]
  · rw [if_neg c1, if_neg c1]
    by_cases c2 : k < τ.1 20 (τ.1 14 i).toNatClampNeg
    · rw [if_pos c2, if_pos rfl, if_neg (by rw [t_le]; rw [t_lt] at c2; omega)]
    · rw [if_neg c2, if_neg (by decide), if_pos (by rw [t_le]; rw [t_lt] at c2; omega)]
theorem R.knownF (h : R σ τ n m u v) {i : Nat} (hi : i < v) (k : Int32) : fX3_isKnown_F σ (nI i) k = fX7_isKnown τ (τ.1 18 i) (τ.1 19 i) k := by
  obtain ⟨⟨b1, b2, b3, b4⟩, ⟨v1, v2, v3, -⟩, ha, ⟨l1, l2, l3, l4, l5⟩, -⟩ := h
  have e := vp_in_lt (l4 i hi)
  unfold fX3_isKnown_F fX7_isKnown fX2_isUndone
  rw [v3, if_neg (nI_pos (by omega)), if_neg (nI_ge hi (by omega)), nI_clamp (by omega), ha 18 (by omega), ha 19 (by omega), l1 _ (show (τ.1 19 i).toNatClampNeg ≤ m by omega)]
  by_cases c1 : k < τ.1 18 i
  · rw [if_pos c1, if_pos c1]
  · rw [if_neg c1, if_neg c1]
    by_cases c2 : k < τ.1 20 (τ.1 19 i).toNatClampNeg
    · rw [if_pos c2, if_pos rfl, if_neg (by rw [t_le]; rw [t_lt] at c2; omega)]
    · rw [if_neg c2, if_neg (by decide), if_pos (by rw [t_le]; rw [t_lt] at c2; omega)]
end RR
