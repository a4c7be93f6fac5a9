/-! the calls that change: both sides answer alike, and stay related -/
theorem isIn_iff {τ : St} {x a b : Int32} : ¬ fX7_isIn τ x a b = 0 ↔ a.toInt ≤ x.toInt ∧ x.toInt ≤ b.toInt := by
  unfold fX7_isIn
  by_cases c1 : x < a
  · rw [if_pos c1]
    rw [t_lt] at c1
    exact ⟨fun q => absurd rfl q, fun q => by omega⟩
  · rw [if_neg c1]
    rw [t_lt] at c1
    by_cases c2 : b < x
    · rw [if_pos c2]
      rw [t_lt] at c2
      exact ⟨fun q => absurd rfl q, fun q => by omega⟩
    · rw [if_neg c2]
      rw [t_lt] at c2
      exact ⟨fun _ => by omega, fun _ => by decide⟩
section RW1
variable {σ τ : St} {n m u v : Nat}
theorem R.day (h : R σ τ n m u v) (d : Int32) : (fX6_day σ d).1 = (fX7_day τ d).1 ∧ R (fX6_day σ d).2 (fX7_day τ d).2 n m u v := by
  have h0 := h
  obtain ⟨hb, ⟨v1, v2, v3, v4, v5, v6, v7, v8, v9, v10, v11⟩, ha, hl, hm, ht, hh⟩ := h
  unfold fX6_day fX7_day
  rw [v9]
  by_cases c1 : d ≤ τ.2.1 0
  · simp only [c1, if_true]; exact ⟨trivial, h0⟩
  · by_cases c2 : d ≤ 2000
    · simp only [c1, c2, if_true, if_false]
      rw [t_le] at c1
      rw [t_le, k_2000] at c2
      refine ⟨trivial, hb, ⟨v1, v2, v3, v4, v5, v6, v7, v8, rfl, ?_, ?_⟩, ha, hl, hm, ?_, hh⟩
      · show 0 ≤ d.toInt; omega
      · show d.toInt ≤ 2000; omega
      · intro t hlt
        obtain ⟨t1, t2, t3, t4⟩ := ht t hlt
        refine ⟨t1, t2, ?_, ?_⟩
        · show (τ.1 2 t).toInt ≤ d.toInt; omega
        · rcases t4 with q | ⟨q1, q2, q3⟩
          · exact Or.inl q
          · exact Or.inr ⟨by show (τ.1 4 t).toInt ≤ d.toInt; omega, q2, q3⟩
    · simp only [c1, c2, if_false]; exact ⟨trivial, h0⟩
theorem R.add (h : R σ τ n m u v) (hn : n < 40) (c d : Int32) (hc : 0 ≤ c.toInt ∧ c.toInt ≤ 99) (hd : d.toInt ≤ 2000) : (fX5_add σ c d (σ.2.1 0)).1 = nI n ∧ (fX7_comes τ c d).1 = nI n ∧ R (fX5_add σ c d (σ.2.1 0)).2 (fX7_comes τ c d).2 (n + 1) m u v := by
  obtain ⟨⟨b1, b2, b3, b4⟩, ⟨v1, v2, v3, v4, v5, v6, v7, v8, v9, v10, v11⟩, ha, hl, hm, ht, ⟨hh, hf⟩⟩ := h
  have e1 : (1 : Int32) ≤ 40 - σ.2.1 1 := by
    rw [v1]
    show nI 1 ≤ nI 40 - nI n
    rw [pk_sub (by omega)]
    exact nI_le (by omega) (by omega)
  have cs : (σ.2.1 1).toNatClampNeg = n := cl_nI v1 (by omega)
  have ct : (τ.2.1 1).toNatClampNeg = n := cl_nI v2 (by omega)
  unfold fX5_add
  rw [if_pos e1, cs]
  refine ⟨?_, v2, ?_⟩
  · show σ.2.1 1 + 1 - 1 = nI n
    rw [v1, nI_1, nI_pred]
  have q0 : (fX7_comes τ c d).2.1 0 = upd (τ.1 0) n c := by show upd (τ.1 0) (τ.2.1 1).toNatClampNeg c = _; rw [ct]
  have q1 : (fX7_comes τ c d).2.1 1 = upd (τ.1 1) n d := by show upd (τ.1 1) (τ.2.1 1).toNatClampNeg d = _; rw [ct]
  have q2 : (fX7_comes τ c d).2.1 2 = upd (τ.1 2) n (τ.2.1 0) := by show upd (τ.1 2) (τ.2.1 1).toNatClampNeg (τ.2.1 0) = _; rw [ct]
  have q3 : (fX7_comes τ c d).2.1 3 = upd (τ.1 3) n 2001 := by show upd (τ.1 3) (τ.2.1 1).toNatClampNeg 2001 = _; rw [ct]
  have q4 : (fX7_comes τ c d).2.1 4 = upd (τ.1 4) n 2001 := by show upd (τ.1 4) (τ.2.1 1).toNatClampNeg 2001 = _; rw [ct]
  have q5 : (fX7_comes τ c d).2.1 5 = τ.1 5 := rfl
  have q6 : (fX7_comes τ c d).2.1 6 = upd (τ.1 6) n (-1) := by show upd (τ.1 6) (τ.2.1 1).toNatClampNeg (-1) = _; rw [ct]
  have q7 : (fX7_comes τ c d).2.1 7 = τ.1 7 := rfl
  have q8 : (fX7_comes τ c d).2.1 8 = τ.1 8 := rfl
  have qv : (fX7_comes τ c d).2.2.1 0 = τ.2.1 0 := rfl
  have qo : ∀ k, 9 ≤ k → (fX7_comes τ c d).2.1 k = τ.1 k := by
    intro k hk
    show va_up _ 6 _ k = _
    simp only [sI, sV, va_up]
    simp only [show ¬ k = 0 by omega, show ¬ k = 1 by omega, show ¬ k = 2 by omega, show ¬ k = 3 by omega, show ¬ k = 4 by omega, show ¬ k = 6 by omega, if_false]
  refine ⟨⟨by omega, b2, b3, b4⟩, ⟨?_, ?_, v3, v4, v5, v6, v7, v8, v9, v10, v11⟩, ?_, hl, hm, ?_, ?_, ?_⟩
  · show σ.2.1 1 + 1 = _
    rw [v1, nI_1]
  · show τ.2.1 1 + 1 = _
    rw [v2, nI_1]
  · intro k hk
    rcases hk with hk | hk
    · rcases (show k = 0 ∨ k = 1 ∨ k = 2 ∨ k = 3 ∨ k = 4 ∨ k = 5 ∨ k = 6 by omega) with rfl | rfl | rfl | rfl | rfl | rfl | rfl
      · rw [q0, ← ha 0 (by omega)]; rfl
      · rw [q1, ← ha 1 (by omega)]; rfl
      · rw [q2, ← ha 2 (by omega), ← v9]; rfl
      · rw [q3, ← ha 3 (by omega)]; rfl
      · rw [q4, ← ha 4 (by omega)]; rfl
      · rw [q5]
        show upd (σ.1 5) n 0 = τ.1 5
        rw [ha 5 (by omega)]
        funext t
        by_cases ct : t = n
        · subst ct; rw [pk_us, hf t (Nat.le_refl _)]
        · rw [pk_un ct]
      · rw [q6, ← ha 6 (by omega)]; rfl
    · rw [qo k hk.1, ← ha k (Or.inr hk)]
      show va_up _ 8 _ k = _
      simp only [sI, sV, va_up]
      simp only [show ¬ k = 0 by omega, show ¬ k = 1 by omega, show ¬ k = 2 by omega, show ¬ k = 3 by omega, show ¬ k = 4 by omega, show ¬ k = 5 by omega, show ¬ k = 6 by omega, show ¬ k = 7 by omega, show ¬ k = 8 by omega, if_false]
  · intro t hlt
    rw [q0, q1, q2, q3, q4, qv]
    by_cases ct : t = n
    · subst ct
      rw [pk_us, pk_us, pk_us, pk_us, pk_us]
      refine ⟨hc, ?_, Int.le_refl _, Or.inl ⟨rfl, rfl⟩⟩
      rw [k_2001]; omega
    · rw [pk_un ct, pk_un ct, pk_un ct, pk_un ct, pk_un ct]
      exact ht t (by omega)
  · intro t hlt
    rw [q5, q6, q7, q8]
    by_cases ct : t = n
    · subst ct
      have : τ.1 5 t = 0 := hf t (Nat.le_refl _)
      exact ⟨fun q => absurd (this.symm.trans q) (by decide), fun q => absurd (this.symm.trans q) (by decide)⟩
    · rw [pk_un ct]
      obtain ⟨g1, g2⟩ := hh t (by omega)
      refine ⟨fun q => ?_, fun q => ?_⟩
      · obtain ⟨⟨s1, s2, s3⟩, hx, e, k1, k2⟩ := g1 q
        refine ⟨⟨?_, ?_, s3⟩, hx, e, k1, by omega⟩
        · show upd (σ.1 7) n 0 t = _
          rw [pk_un ct]; exact s1
        · show upd (σ.1 8) n 1 t = _
          rw [pk_un ct]; exact s2
      · obtain ⟨hx, e, k1, k2⟩ := g2 q
        exact ⟨hx, e, k1, by omega⟩
  · intro t hlt
    rw [q5]
    exact hf t (by omega)
theorem R.fin {σ' : St} (h : R σ τ n m u v) {t : Nat} (hlt : t < n) (day hw heir p q : Int32) (hday : day.toInt ≤ 2000) (hbd : (τ.1 1 t).toInt < day.toInt)
    (a3 : σ'.1 3 = upd (σ.1 3) t day) (a4 : σ'.1 4 = upd (σ.1 4) t (σ.2.1 0)) (a5 : σ'.1 5 = upd (σ.1 5) t hw) (a6 : σ'.1 6 = upd (σ.1 6) t heir) (ao : ∀ k, k ≠ 3 → k ≠ 4 → k ≠ 5 → k ≠ 6 → k ≠ 7 → k ≠ 8 → σ'.1 k = σ.1 k) (av : σ'.2.1 = σ.2.1)
    (a7 : ∀ s, s ≠ t → σ'.1 7 s = σ.1 7 s) (a8 : ∀ s, s ≠ t → σ'.1 8 s = σ.1 8 s) (ap : hw = 2 → (σ'.1 7 t = p ∧ σ'.1 8 t = q ∧ 1 ≤ q) ∧ ∃ x, heir = nI x ∧ t < x ∧ x + 1 < n) (aj : hw = 3 → ∃ x, heir = nI x ∧ t < x ∧ x < n) : R σ' (fX7_goes τ (nI t) day hw heir p q) n m u v := by
  obtain ⟨⟨b1, b2, b3, b4⟩, ⟨v1, v2, v3, v4, v5, v6, v7, v8, v9, v10, v11⟩, ha, ⟨l1, l2, l3, l4, l5⟩, hm, ht, ⟨hh, hf⟩⟩ := h
  have ct : (nI t).toNatClampNeg = t := nI_clamp (by omega)
  have q3 : (fX7_goes τ (nI t) day hw heir p q).1 3 = upd (τ.1 3) t day := by show upd (τ.1 3) (nI t).toNatClampNeg day = _; rw [ct]
  have q4 : (fX7_goes τ (nI t) day hw heir p q).1 4 = upd (τ.1 4) t (τ.2.1 0) := by show upd (τ.1 4) (nI t).toNatClampNeg (τ.2.1 0) = _; rw [ct]
  have q5 : (fX7_goes τ (nI t) day hw heir p q).1 5 = upd (τ.1 5) t hw := by show upd (τ.1 5) (nI t).toNatClampNeg hw = _; rw [ct]
  have q6 : (fX7_goes τ (nI t) day hw heir p q).1 6 = upd (τ.1 6) t heir := by show upd (τ.1 6) (nI t).toNatClampNeg heir = _; rw [ct]
  have q7 : (fX7_goes τ (nI t) day hw heir p q).1 7 = upd (τ.1 7) t p := by show upd (τ.1 7) (nI t).toNatClampNeg p = _; rw [ct]
  have q8 : (fX7_goes τ (nI t) day hw heir p q).1 8 = upd (τ.1 8) t q := by show upd (τ.1 8) (nI t).toNatClampNeg q = _; rw [ct]
  have qv : (fX7_goes τ (nI t) day hw heir p q).2.1 = τ.2.1 := rfl
  have qo : ∀ k, k ≠ 3 → k ≠ 4 → k ≠ 5 → k ≠ 6 → k ≠ 7 → k ≠ 8 → (fX7_goes τ (nI t) day hw heir p q).1 k = τ.1 k := by
    intro k h3 h4 h5 h6 h7 h8
    show va_up _ 8 _ k = _
    simp only [sI, va_up]
    simp only [h3, h4, h5, h6, h7, h8, if_false]
  refine ⟨⟨b1, b2, b3, b4⟩, ?_, ?_, ?_, ?_, ?_, ?_, ?_⟩
  · unfold Rv
    rw [av, qv]
    exact ⟨v1, v2, v3, v4, v5, v6, v7, v8, v9, v10, v11⟩
  · intro k hk
    by_cases k3 : k = 3
    · subst k3; rw [a3, q3, ha 3 (by omega)]
    by_cases k4 : k = 4
    · subst k4; rw [a4, q4, ha 4 (by omega), v9]
    by_cases k5 : k = 5
    · subst k5; rw [a5, q5, ha 5 (by omega)]
    by_cases k6 : k = 6
    · subst k6; rw [a6, q6, ha 6 (by omega)]
    rw [ao k k3 k4 k5 k6 (by omega) (by omega), qo k k3 k4 k5 k6 (by omega) (by omega)]
    exact ha k hk
  · unfold Rl
    rw [av, ao 20 (by decide) (by decide) (by decide) (by decide) (by decide) (by decide), qo 20 (by decide) (by decide) (by decide) (by decide) (by decide) (by decide), qo 14 (by decide) (by decide) (by decide) (by decide) (by decide) (by decide), qo 19 (by decide) (by decide) (by decide) (by decide) (by decide) (by decide)]
    exact ⟨l1, l2, l3, l4, l5⟩
  · unfold Rm
    rw [qo 12 (by decide) (by decide) (by decide) (by decide) (by decide) (by decide)]
    exact hm
  · intro s hs
    rw [qo 0 (by decide) (by decide) (by decide) (by decide) (by decide) (by decide), qo 1 (by decide) (by decide) (by decide) (by decide) (by decide) (by decide), qo 2 (by decide) (by decide) (by decide) (by decide) (by decide) (by decide), q3, q4, qv]
    obtain ⟨t1, t2, t3, t4⟩ := ht s hs
    by_cases cs : s = t
    · subst cs
      rw [pk_us, pk_us]
      exact ⟨t1, hbd, t3, Or.inr ⟨Int.le_refl _, t3, hday⟩⟩
    · rw [pk_un cs, pk_un cs]
      exact ⟨t1, t2, t3, t4⟩
  · intro s hs
    rw [q5, q6, q7, q8]
    by_cases cs : s = t
    · subst cs
      rw [pk_us, pk_us, pk_us, pk_us]
      exact ⟨ap, aj⟩
    · rw [pk_un cs, pk_un cs, pk_un cs, pk_un cs, a7 s cs, a8 s cs]
      exact hh s hs
  · intro s hs
    rw [q5, pk_un (by omega)]
    exact hf s hs
theorem R.fin3 (h : R σ τ n m u v) {t : Nat} (hlt : t < n) (day hw heir p q : Int32) (hday : day.toInt ≤ 2000) (hbd : (τ.1 1 t).toInt < day.toInt) (h2 : ¬ hw = 2) (aj : hw = 3 → ∃ x, heir = nI x ∧ t < x ∧ x < n) : R (fX5_finish σ (nI t) day (σ.2.1 0) hw heir) (fX7_goes τ (nI t) day hw heir p q) n m u v := by
  have hn : n ≤ 40 := h.1.1
  have ct : (nI t).toNatClampNeg = t := nI_clamp (by omega)
  refine h.fin hlt day hw heir p q hday hbd ?_ ?_ ?_ ?_ ?_ rfl (fun _ _ => rfl) (fun _ _ => rfl) (fun z => absurd z h2) aj
  · show upd (σ.1 3) (nI t).toNatClampNeg day = _; rw [ct]
  · show upd (σ.1 4) (nI t).toNatClampNeg (σ.2.1 0) = _; rw [ct]
  · show upd (σ.1 5) (nI t).toNatClampNeg hw = _; rw [ct]
  · show upd (σ.1 6) (nI t).toNatClampNeg heir = _; rw [ct]
  · intro k h3 h4 h5 h6 h7 h8
    show va_up _ 6 _ k = _
    simp only [sI, va_up]
    simp only [h3, h4, h5, h6, if_false]
theorem goes_birth (τ : St) (a b c d e f : Int32) : (fX7_goes τ a b c d e f).1 1 = τ.1 1 := rfl
theorem R.join2 (h : R σ τ n m u v) {t s x : Nat} (ht : t < x) (hs : s < x) (hx : x < n) (d : Int32) (hday : d.toInt ≤ 2000) (hbt : (τ.1 1 t).toInt < d.toInt) (hbs : (τ.1 1 s).toInt < d.toInt) : R (fX5_finish (fX5_finish σ (nI t) d (σ.2.1 0) 3 (nI x)) (nI s) d ((fX5_finish σ (nI t) d (σ.2.1 0) 3 (nI x)).2.1 0) 3 (nI x)) (fX7_goes (fX7_goes τ (nI t) d 3 (nI x) 1 1) (nI s) d 3 (nI x) 1 1) n m u v :=
  (h.fin3 (by omega) d 3 (nI x) 1 1 hday hbt (by decide) (fun _ => ⟨x, rfl, ht, hx⟩)).fin3 (by omega) d 3 (nI x) 1 1 hday (by rw [goes_birth]; exact hbs) (by decide) (fun _ => ⟨x, rfl, hs, hx⟩)
theorem R.canEnd (h : R σ τ n m u v) (a d : Int32) : fX6_canEnd σ a d = fX7_mayEnd τ a d := by
  unfold fX6_canEnd fX7_mayEnd fX5_hasEnd
  rw [e_isDay σ τ, h.has, h.2.2.1 3 (by omega), h.2.2.1 1 (by omega)]
  by_cases c1 : fX7_isIn τ a 0 (τ.2.1 1 - 1) = 0 <;> by_cases c2 : fX7_isIn τ d 0 2000 = 0 <;> by_cases c3 : τ.1 3 a.toNatClampNeg = 2001 <;> simp [c1, c2, c3]
theorem R.mayEnd_of (h : R σ τ n m u v) {a d : Int32} (c : ¬ fX7_mayEnd τ a d = 0) : ∃ t, t < n ∧ a = nI t ∧ d.toInt ≤ 2000 ∧ (τ.1 1 t).toInt < d.toInt := by
  unfold fX7_mayEnd at c
  rw [← h.has] at c
  split at c
  · exact absurd rfl c
  · rename_i c1
    obtain ⟨t, hlt, rfl⟩ := h.has_of c1
    have hn : n ≤ 40 := h.1.1
    rw [nI_clamp (by omega)] at c
    split at c
    · split at c
      · exact absurd rfl c
      · rename_i c2
        split at c
        · exact absurd rfl c
        · rename_i c3
          have := isIn_iff.mp c2
          rw [k_0, k_2000] at this
          rw [t_le] at c3
          exact ⟨t, hlt, rfl, this.2, by omega⟩
    · exact absurd rfl c
theorem R.ends (h : R σ τ n m u v) (a d : Int32) : (fX6_ends σ a d).1 = (fX7_ends τ a d).1 ∧ R (fX6_ends σ a d).2 (fX7_ends τ a d).2 n m u v := by
  unfold fX6_ends fX7_ends
  rw [h.canEnd]
  by_cases c : fX7_mayEnd τ a d = 0
  · rw [if_pos c, if_pos c]; exact ⟨rfl, h⟩
  · rw [if_neg c, if_neg c]
    obtain ⟨t, hlt, rfl, h1, h2⟩ := h.mayEnd_of c
    exact ⟨rfl, h.fin3 hlt d 1 (-1) 0 1 h1 h2 (by decide) (fun q => absurd q (by decide))⟩
theorem nI_nm1 {t : Nat} (h : t < 2 ^ 31) : ¬ nI t = -1 := by
  intro q
  have := nI_toInt h
  rw [q, k_m1] at this
  omega
theorem R.born (h : R σ τ n m u v) (c d : Int32) : (fX6_born σ c d).1 = (fX7_born τ c d).1 ∧ ∃ n', R (fX6_born σ c d).2 (fX7_born τ c d).2 n' m u v := by
  have hn : n ≤ 40 := h.1.1
  have v1 := h.2.1.1
  have v2 := h.2.1.2.1
  have ht := h.taken c d (-1) (-1) (fun t ht q => absurd q (nI_nm1 (by omega))) (fun t ht q => absurd q (nI_nm1 (by omega)))
  unfold fX6_born fX7_born
  rw [e_isCode σ τ, e_isDay σ τ, ht, v1, v2]
  by_cases c1 : fX7_isIn τ c 0 99 = 0
  · rw [if_pos c1, if_pos c1]; exact ⟨rfl, n, h⟩
  rw [if_neg c1, if_neg c1]
  by_cases c2 : fX7_isIn τ d 0 2000 = 0
  · rw [if_pos c2, if_pos c2]; exact ⟨rfl, n, h⟩
  rw [if_neg c2, if_neg c2]
  by_cases c3 : fX7_isTaken τ c d (-1) (-1) = 0
  · rw [if_pos c3, if_pos c3]
    by_cases c4 : n = 40
    · have e1 : ¬ (1 : Int32) ≤ 40 - nI n := by rw [c4]; decide
      have e2 : nI n = 40 := by rw [c4]; rfl
      rw [if_neg e1, if_pos e2]; exact ⟨rfl, n, h⟩
    · have e1 : (1 : Int32) ≤ 40 - nI n := by
        show nI 1 ≤ nI 40 - nI n
        rw [pk_sub (by omega)]
        exact nI_le (by omega) (by omega)
      have e2 : ¬ nI n = 40 := fun q => c4 ((nI_eq (by omega) (by decide)).mp (show nI n = nI 40 from q))
      rw [if_pos e1, if_neg e2]
      have i1 := isIn_iff.mp c1
      have i2 := isIn_iff.mp c2
      rw [k_0, k_99] at i1
      rw [k_0, k_2000] at i2
      obtain ⟨g1, g2, g3⟩ := h.add (by omega) c d i1 i2.2
      exact ⟨by rw [g1, g2], n + 1, g3⟩
  · rw [if_neg c3, if_neg c3]; exact ⟨rfl, n, h⟩
theorem sh_iff {σ τ : St} {p q : Int32} : ¬ fX6_isShare σ p q = 0 ↔ ¬ fX7_isIn τ q 1 100 = 0 ∧ ¬ fX7_isIn τ p 0 q = 0 := by
  rw [isIn_iff, isIn_iff]
  unfold fX6_isShare
  by_cases c1 : q < 1
  · rw [if_pos c1]
    rw [t_lt] at c1
    exact ⟨fun z => absurd rfl z, fun z => by omega⟩
  rw [if_neg c1]
  rw [t_lt] at c1
  by_cases c2 : 100 < q
  · rw [if_pos c2]
    rw [t_lt] at c2
    exact ⟨fun z => absurd rfl z, fun z => by omega⟩
  rw [if_neg c2]
  rw [t_lt] at c2
  by_cases c3 : p < 0
  · rw [if_pos c3]
    rw [t_lt] at c3
    exact ⟨fun z => absurd rfl z, fun z => by omega⟩
  rw [if_neg c3]
  rw [t_lt] at c3
  by_cases c4 : q < p
  · rw [if_pos c4]
    rw [t_lt] at c4
    exact ⟨fun z => absurd rfl z, fun z => by omega⟩
  rw [if_neg c4]
  rw [t_lt] at c4
  exact ⟨fun _ => by omega, fun _ => by decide⟩
theorem R.split (h : R σ τ n m u v) (a d c1 c2 p q : Int32) : (fX6_split σ a d c1 c2 p q).1 = (fX7_split τ a d c1 c2 p q).1 ∧ ∃ n', R (fX6_split σ a d c1 c2 p q).2 (fX7_split τ a d c1 c2 p q).2 n' m u v := by
  have hn : n ≤ 40 := h.1.1
  have v1 := h.2.1.1
  have v2 := h.2.1.2.1
  unfold fX6_split fX7_split
  rw [h.canEnd, e_isCode σ τ, e_isCode σ τ, v1, v2]
  by_cases x1 : fX7_mayEnd τ a d = 0
  · rw [if_pos x1, if_pos x1]; exact ⟨rfl, n, h⟩
  rw [if_neg x1, if_neg x1]
  obtain ⟨t, hlt, rfl, h1, h2⟩ := h.mayEnd_of x1
  have tk : ∀ x, fX5_isTaken σ x d (nI t) (-1) = fX7_isTaken τ x d (nI t) (-1) := fun x => h.taken x d (nI t) (-1) (fun s hs e => by
    have : s = t := (nI_eq (by omega) (by omega)).mp e
    subst this
    exact h2) (fun s hs e => absurd e (nI_nm1 (by omega)))
  rw [tk c1, tk c2]
  by_cases x2 : fX7_isIn τ c1 0 99 = 0
  · rw [if_pos x2, if_pos x2]; exact ⟨rfl, n, h⟩
  rw [if_neg x2, if_neg x2]
  by_cases x3 : fX7_isIn τ c2 0 99 = 0
  · rw [if_pos x3, if_pos x3]; exact ⟨rfl, n, h⟩
  rw [if_neg x3, if_neg x3]
  by_cases x4 : c1 = c2
  · rw [if_pos x4, if_pos x4]; exact ⟨rfl, n, h⟩
  rw [if_neg x4, if_neg x4]
  have sh := sh_iff (σ := σ) (τ := τ) (p := p) (q := q)
  by_cases x5 : fX6_isShare σ p q = 0
  · rw [if_pos x5]
    by_cases x6 : fX7_isIn τ q 1 100 = 0
    · rw [if_pos x6]; exact ⟨rfl, n, h⟩
    · rw [if_neg x6]
      by_cases x7 : fX7_isIn τ p 0 q = 0
      · rw [if_pos x7]; exact ⟨rfl, n, h⟩
      · exact absurd x5 (sh.mpr ⟨x6, x7⟩)
  obtain ⟨x6, x7⟩ := sh.mp x5
  rw [if_neg x5, if_neg x6, if_neg x7]
  by_cases x8 : fX7_isTaken τ c1 d (nI t) (-1) = 0
  · rw [if_pos x8, if_pos x8]
    by_cases x9 : fX7_isTaken τ c2 d (nI t) (-1) = 0
    · rw [if_pos x9, if_pos x9]
      by_cases x10 : n ≤ 38
      · have e1 : (2 : Int32) ≤ 40 - nI n := by
          show nI 2 ≤ nI 40 - nI n
          rw [pk_sub (by omega)]
          exact nI_le (by omega) (by omega)
        have e2 : nI n ≤ 38 := (nI_le x10 (by decide) : nI n ≤ nI 38)
        rw [if_pos e1, if_pos e2]
        have i1 := isIn_iff.mp x2
        have i2 := isIn_iff.mp x3
        have i3 := isIn_iff.mp x6
        rw [k_0, k_99] at i1
        rw [k_0, k_99] at i2
        have i4 : (1 : Int32) ≤ q := by rw [t_le]; exact i3.1
        obtain ⟨g1, g2, g3⟩ := h.add (by omega) c1 d i1 h1
        obtain ⟨g4, g5, g6⟩ := g3.add (by omega) c2 d i2 h1
        refine ⟨by rw [g1, g2], n + 2, ?_⟩
        rw [g1, g2]
        have ct : (nI t).toNatClampNeg = t := nI_clamp (by omega)
        have bq : (fX7_comes (fX7_comes τ c1 d).2 c2 d).2.1 1 t = τ.1 1 t := by
          have y1 : (τ.2.1 1).toNatClampNeg = n := cl_nI v2 (by omega)
          have y2 : ((fX7_comes τ c1 d).2.2.1 1).toNatClampNeg = n + 1 := cl_nI g3.2.1.2.1 (by omega)
          show upd (upd (τ.1 1) (τ.2.1 1).toNatClampNeg d) ((fX7_comes τ c1 d).2.2.1 1).toNatClampNeg d t = _
          rw [y1, y2, pk_un (by omega), pk_un (by omega)]
        generalize hσ2 : (fX5_add (fX5_add σ c1 d (σ.2.1 0)).2 c2 d ((fX5_add σ c1 d (σ.2.1 0)).2.2.1 0)).2 = σ2 at g6 ⊢
        generalize hτ2 : (fX7_comes (fX7_comes τ c1 d).2 c2 d).2 = τ2 at g6 bq ⊢
        refine g6.fin (t := t) (by omega) d 2 (nI n) p q h1 (by rw [bq]; exact h2) ?_ ?_ ?_ ?_ ?_ rfl ?_ ?_ ?_ (fun z => absurd z (by decide))
        · show upd (σ2.1 3) (nI t).toNatClampNeg d = _; rw [ct]
        · show upd (σ2.1 4) (nI t).toNatClampNeg (σ2.2.1 0) = _; rw [ct]
        · show upd (σ2.1 5) (nI t).toNatClampNeg 2 = _; rw [ct]
        · show upd (σ2.1 6) (nI t).toNatClampNeg (nI n) = _; rw [ct]
        · intro k h3 h4 h5 h6 h7 h8
          show va_up _ 8 _ k = _
          simp only [sI, va_up, fX5_finish]
          simp only [h3, h4, h5, h6, h7, h8, if_false]
        · intro s hs
          show upd (σ2.1 7) (nI t).toNatClampNeg p s = _
          rw [ct, pk_un hs]
        · intro s hs
          show upd (σ2.1 8) (nI t).toNatClampNeg q s = _
          rw [ct, pk_un hs]
        · intro _
          refine ⟨⟨?_, ?_, i4⟩, n, rfl, hlt, by omega⟩
          · show upd (σ2.1 7) (nI t).toNatClampNeg p t = _
            rw [ct, pk_us]
          · show upd (σ2.1 8) (nI t).toNatClampNeg q t = _
            rw [ct, pk_us]
      · have e1 : ¬ (2 : Int32) ≤ 40 - nI n := by
          show ¬ nI 2 ≤ nI 40 - nI n
          rw [pk_sub (by omega)]
          exact nI_ge (by omega) (by omega)
        have e2 : ¬ nI n ≤ 38 := fun z => x10 ((nI_leI (by omega) (by decide)).mp (show nI n ≤ nI 38 from z))
        rw [if_neg e1, if_neg e2]; exact ⟨rfl, n, h⟩
    · rw [if_neg x9, if_neg x9]; exact ⟨rfl, n, h⟩
  · rw [if_neg x8, if_neg x8]; exact ⟨rfl, n, h⟩
theorem R.join (h : R σ τ n m u v) (a b d c : Int32) : (fX6_join σ a b d c).1 = (fX7_join τ a b d c).1 ∧ ∃ n', R (fX6_join σ a b d c).2 (fX7_join τ a b d c).2 n' m u v := by
  have hn : n ≤ 40 := h.1.1
  have v1 := h.2.1.1
  have v2 := h.2.1.2.1
  unfold fX6_join fX7_join
  rw [h.canEnd, h.canEnd, e_isCode σ τ, v1, v2]
  by_cases x1 : fX7_mayEnd τ a d = 0
  · rw [if_pos x1, if_pos x1]
    refine ⟨?_, n, ?_⟩
    · split <;> rfl
    · split <;> exact h
  rw [if_neg x1, if_neg x1]
  by_cases x2 : fX7_mayEnd τ b d = 0
  · rw [if_pos x2, if_pos x2]
    refine ⟨?_, n, ?_⟩
    · split <;> rfl
    · split <;> exact h
  rw [if_neg x2, if_neg x2]
  by_cases x3 : a = b
  · rw [if_pos x3, if_pos x3]; exact ⟨rfl, n, h⟩
  rw [if_neg x3, if_neg x3]
  by_cases x4 : fX7_isIn τ c 0 99 = 0
  · rw [if_pos x4, if_pos x4]; exact ⟨rfl, n, h⟩
  rw [if_neg x4, if_neg x4]
  obtain ⟨t, hlt, rfl, h1, h2⟩ := h.mayEnd_of x1
  obtain ⟨s, hls, rfl, h3, h4⟩ := h.mayEnd_of x2
  have hts : s ≠ t := fun z => x3 (by rw [z])
  have tk := h.taken c d (nI t) (nI s) (fun s' hs e => by
    have : s' = t := (nI_eq (by omega) (by omega)).mp e
    subst this
    exact h2) (fun s' hs e => by
    have : s' = s := (nI_eq (by omega) (by omega)).mp e
    subst this
    exact h4)
  rw [tk]
  by_cases x5 : fX7_isTaken τ c d (nI t) (nI s) = 0
  · rw [if_pos x5, if_pos x5]
    by_cases x6 : n = 40
    · have e1 : ¬ (1 : Int32) ≤ 40 - nI n := by rw [x6]; decide
      have e2 : nI n = 40 := by rw [x6]; rfl
      rw [if_neg e1, if_pos e2]; exact ⟨rfl, n, h⟩
    · have e1 : (1 : Int32) ≤ 40 - nI n := by
        show nI 1 ≤ nI 40 - nI n
        rw [pk_sub (by omega)]
        exact nI_le (by omega) (by omega)
      have e2 : ¬ nI n = 40 := fun z => x6 ((nI_eq (by omega) (by decide)).mp (show nI n = nI 40 from z))
      rw [if_pos e1, if_neg e2]
      have i1 := isIn_iff.mp x4
      rw [k_0, k_99] at i1
      obtain ⟨g1, g2, g3⟩ := h.add (by omega) c d i1 h1
      refine ⟨by rw [g1, g2], n + 1, ?_⟩
      rw [g1, g2]
      have bq : ∀ r, r < n → (fX7_comes τ c d).2.1 1 r = τ.1 1 r := by
        intro r hr
        have y1 : (τ.2.1 1).toNatClampNeg = n := cl_nI v2 (by omega)
        show upd (τ.1 1) (τ.2.1 1).toNatClampNeg d r = _
        rw [y1, pk_un (by omega)]
      exact g3.join2 hlt hls (by omega) d h1 (by rw [bq t hlt]; exact h2) (by rw [bq s hls]; exact h4)
  · rw [if_neg x5, if_neg x5]; exact ⟨rfl, n, h⟩
end RW1
