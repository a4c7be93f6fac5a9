/-! amounts carried: what the class lays on its things and loses is what the reference adds up -/
def gA (S : Nat → Int64) (w : Nat → Int32) (x : Int32) : Nat → Nat → Int64
  | 0, _ => 0
  | k + 1, i => (if w i = x then S i else 0) + gA S w x k (i + 1)
theorem gA_upd (S : Nat → Int64) (w : Nat → Int32) (x : Int32) (t : Nat) (a : Int64) : ∀ (k i : Nat), gA (vp_updL S t (S t + a)) w x k i = gA S w x k i + (if i ≤ t ∧ t < i + k ∧ w t = x then a else 0) := by
  intro k
  induction k with
  | zero =>
    intro i
    rw [if_neg (by omega), gA, gA, Int64.add_zero]
  | succ k ih =>
    intro i
    rw [gA, gA, ih (i + 1)]
    by_cases c : i = t
    · subst c
      rw [pk_uLs, if_neg (show ¬ (i + 1 ≤ i ∧ i < i + 1 + k ∧ w i = x) by omega), Int64.add_zero]
      by_cases c2 : w i = x
      · rw [if_pos c2, if_pos c2, if_pos ⟨Nat.le_refl _, by omega, c2⟩]
        ac_rfl
      · rw [if_neg c2, if_neg c2, if_neg (fun q => c2 q.2.2), Int64.add_zero]
    · rw [pk_uLn c]
      by_cases c2 : i + 1 ≤ t ∧ t < i + 1 + k ∧ w t = x
      · rw [if_pos c2, if_pos (show i ≤ t ∧ t < i + (k + 1) ∧ w t = x from ⟨by omega, by omega, c2.2.2⟩)]
        ac_rfl
      · rw [if_neg c2, if_neg (show ¬ (i ≤ t ∧ t < i + (k + 1) ∧ w t = x) from fun q => c2 ⟨by omega, by omega, q.2.2⟩), Int64.add_zero, Int64.add_zero]
theorem z_carried (τ : St) (d k mk x : Int32) : ∀ (f : Nat) (t : Int32), fX7_carried f τ 0 t d k mk x = 0 := by
  intro f
  induction f with
  | zero => intro t; rfl
  | succ f ih =>
    intro t
    have e0 : (0 : Int32).toInt64 = 0 := rfl
    rw [fX7_carried, Int32.zero_mul, Int32.zero_div, Int32.sub_zero, ih, ih, e0]
    repeat' split
    all_goals rfl
theorem carry_acc {τ : St} {n m u v : Nat} (d k mk x : Int32) (hd1 : d.toInt ≤ 2000) (hk1 : k.toInt ≤ 2000) (hmk : ¬ mk = -1) (w : Nat → Int32) (hw : ∀ i, i < n → w i = fX7_valueOf τ (nI i) mk d k) :
    ∀ (f f' : Nat) (σ : St) (t dep : Nat) (a : Int32), R σ τ n m u v → σ.2.1 6 = d → σ.2.1 7 = k → t < n → dep ≤ t → 40 ≤ dep + f → n ≤ t + f' →
      gA (fX0_carry f σ (nI t) a (nI dep)).2.2.1 w x n 0 = gA σ.2.2.1 w x n 0 + fX7_carried f' τ a (nI t) d k mk x ∧ (fX0_carry f σ (nI t) a (nI dep)).2.2.2 = σ.2.2.2 + fX7_carried f' τ a (nI t) d k (-1) 0 := by
  intro f
  induction f with
  | zero =>
    intro f' σ t dep a h e6 e7 ht hdep hf hf'
    have := h.1.1
    omega
  | succ f ih =>
    intro f' σ t dep a h e6 e7 ht hdep hf hf'
    cases f' with
    | zero => omega
    | succ f' =>
      have hn : n ≤ 40 := h.1.1
      by_cases ca : a = 0
      · subst ca
        rw [z_carried, z_carried, fX0_carry, if_pos rfl, Int64.add_zero, Int64.add_zero]
        exact ⟨rfl, rfl⟩
      have cd : ¬ (40 : Int32) ≤ nI dep := fun q => nI_ge (show dep < 40 by omega) (by decide) q
      have hl := h.lives ht d k
      rw [fX0_carry, if_neg ca, if_neg cd, h.has1 ht, if_neg (by decide), e6, e7, hl, fX7_carried, fX7_carried]
      by_cases cl : fX7_lives τ (nI t) d k = 0
      · rw [if_pos cl, if_pos cl, if_pos cl, if_neg hmk, if_pos rfl, nI_clamp (by omega)]
        have lost : gA (sZ σ (σ.2.2.2 + a.toInt64)).2.2.1 w x n 0 = gA σ.2.2.1 w x n 0 + 0 ∧ (sZ σ (σ.2.2.2 + a.toInt64)).2.2.2 = σ.2.2.2 + a.toInt64 := ⟨(Int64.add_zero _).symm, rfl⟩
        have a1 := h.2.2.1 1 (by omega)
        have a4 := h.2.2.1 4 (by omega)
        have a5 := h.2.2.1 5 (by omega)
        have a6 := h.2.2.1 6 (by omega)
        rw [a1]
        by_cases cb : τ.1 1 t ≤ d
        · have cb2 : ¬ d < τ.1 1 t := by rw [t_lt]; rw [t_le] at cb; omega
          rw [if_pos cb, if_neg cb2, if_neg cb2]
          obtain ⟨-, t2, t3, t4⟩ := h.2.2.2.2.2.1 t ht
          unfold fX5_endingOf fX5_heirOf fX5_isEndKnown fX7_endBy
          rw [nI_clamp (by omega), a4, a5, a6]
          by_cases ke : k < τ.1 4 t
          · have k1 : d < (2001 : Int32) := by rw [t_lt, k_2001]; omega
            rw [if_pos ke, if_pos ke, if_pos rfl, if_neg (by decide), if_neg (by decide), if_pos k1, if_pos k1]
            exact lost
          · have ee : τ.1 3 t ≤ d := by
              unfold fX7_lives fX7_endBy at cl
              rw [nI_clamp (by omega), if_neg ke] at cl
              rcases t4 with ⟨q1, q2⟩ | ⟨q1, q2, q3⟩
              · exact absurd (by rw [q1, t_lt, k_2001]; omega) ke
              · rw [if_neg (by rw [t_lt]; rw [t_lt] at ke; omega), if_neg cb2] at cl
                by_cases q : τ.1 3 t ≤ d
                · exact q
                · rw [if_neg q] at cl
                  exact absurd cl (by decide)
            have ee2 : ¬ d < τ.1 3 t := by rw [t_lt]; rw [t_le] at ee; omega
            have n10 : ¬ (1 : Int32) = 0 := by decide
            rw [if_neg ke, if_neg ke, if_neg n10, if_neg n10, if_neg ee2, if_neg ee2]
            by_cases c2 : τ.1 5 t = 2
            · obtain ⟨⟨s1, s2, s3⟩, hh, e, h1, h2⟩ := (h.2.2.2.2.2.2.1 t ht).1 c2
              have fs : fX5_firstShareOf σ (nI t) a = a * τ.1 7 t / τ.1 8 t := by
                unfold fX5_firstShareOf
                rw [nI_clamp (by omega), s1, s2, if_pos s3]
              rw [if_pos c2, if_pos c2, if_pos c2, fs, e, nI_1, nI_1]
              generalize a * τ.1 7 t / τ.1 8 t = a0
              obtain ⟨g1, g2⟩ := ih f' σ hh (dep + 1) a0 h e6 e7 (by omega) (by omega) (by omega) (by omega)
              have kp := carry_keep f σ (nI hh) a0 (nI (dep + 1))
              obtain ⟨g3, g4⟩ := ih f' (fX0_carry f σ (nI hh) a0 (nI (dep + 1))) (hh + 1) (dep + 1) (a - a0) (h.congr kp.1 (fun j _ => by rw [kp.2])) (by rw [kp.2]; exact e6) (by rw [kp.2]; exact e7) (by omega) (by omega) (by omega) (by omega)
              rw [g3, g4, g1, g2]
              exact ⟨Int64.add_assoc _ _ _, Int64.add_assoc _ _ _⟩
            · rw [if_neg c2, if_neg c2, if_neg c2]
              by_cases c3 : τ.1 5 t = 3
              · obtain ⟨hh, e, h1, h2⟩ := (h.2.2.2.2.2.2.1 t ht).2 c3
                rw [if_pos c3, if_pos c3, if_pos c3, e, nI_1]
                exact ih f' σ hh (dep + 1) a h e6 e7 (by omega) (by omega) (by omega) (by omega)
              · rw [if_neg c3, if_neg c3, if_neg c3]
                exact lost
        · have cb2 : d < τ.1 1 t := by rw [t_lt]; rw [t_le] at cb; omega
          rw [if_neg cb, if_pos cb2, if_pos cb2]
          exact lost
      · rw [if_neg cl, if_neg cl, if_neg cl, if_neg hmk, if_pos rfl, nI_clamp (by omega), ← hw t ht]
        refine ⟨?_, (Int64.add_zero _).symm⟩
        show gA (vp_updL σ.2.2.1 t (σ.2.2.1 t + a.toInt64)) w x n 0 = _
        rw [gA_upd]
        by_cases c : w t = x
        · rw [if_pos ⟨Nat.zero_le _, by omega, c⟩, if_pos c]
        · rw [if_neg (fun q => c q.2.2), if_neg c]
section RC
variable {σ τ : St} {n m u v : Nat}
theorem start_S (σ : St) (d k : Int32) : ∀ (j i : Nat) (σ1 : St), i + j ≤ 40 → (∀ t, t < i → σ1.2.2.1 t = 0) → ∀ t, t < i + j → (flX0_start_17 σ d k j i σ1).2.2.1 t = 0 := by
  intro j
  induction j with
  | zero => intro i σ1 _ h t ht; exact h t ht
  | succ j ih =>
    intro i σ1 hij h t ht
    rw [flX0_start_17]
    refine ih (i + 1) _ (by omega) ?_ t (by omega)
    intro s hs
    show vp_updL σ1.2.2.1 (nI i).toNatClampNeg 0 s = 0
    rw [nI_clamp (by omega)]
    by_cases c : s = i
    · subst c; exact pk_uLs
    · rw [pk_uLn c]; exact h s (by omega)
theorem start_Z (σ : St) (d k : Int32) : ∀ (j i : Nat) (σ1 : St), (flX0_start_17 σ d k j i σ1).2.2.2 = σ1.2.2.2 := by
  intro j
  induction j with
  | zero => intro i σ1; rfl
  | succ j ih => intro i σ1; rw [flX0_start_17, ih]; rfl
theorem gA_zero (S : Nat → Int64) (w : Nat → Int32) (x : Int32) : ∀ (k i : Nat), (∀ t, t < i + k → S t = 0) → gA S w x k i = 0 := by
  intro k
  induction k with
  | zero => intro i _; rfl
  | succ k ih =>
    intro i h
    rw [gA, ih (i + 1) (fun t ht => h t (by omega)), h i (by omega), Int64.add_zero]
    split <;> rfl
theorem R.start (h : R σ τ n m u v) (d k : Int32) : R (fX0_start σ d k) τ n m u v ∧ (fX0_start σ d k).2.1 6 = d ∧ (fX0_start σ d k).2.1 7 = k := by
  have k1 := start_keep σ d k (40 : Int32).toNatClampNeg 0 (sZ (sV (sV σ 6 d) 7 k) 0)
  refine ⟨h.congr k1.1 (fun j hj => ?_), ?_, ?_⟩
  · show (fX0_start σ d k).2.1 j = σ.2.1 j
    unfold fX0_start
    rw [k1.2]
    show va_up (va_up σ.2.1 6 d) 7 k j = σ.2.1 j
    unfold va_up
    rw [if_neg (by omega), if_neg (by omega)]
  · unfold fX0_start
    rw [k1.2]
    rfl
  · unfold fX0_start
    rw [k1.2]
    rfl
theorem R.carryAll (h : R σ τ n m u v) (d k mk x : Int32) (hd1 : d.toInt ≤ 2000) (hk1 : k.toInt ≤ 2000) (hmk : ¬ mk = -1) (w : Nat → Int32) (hw : ∀ i, i < n → w i = fX7_valueOf τ (nI i) mk d k) :
    R (fX6_carryAll σ d k) τ n m u v ∧ gA (fX6_carryAll σ d k).2.2.1 w x n 0 = fX7_allCarried τ d k mk x ∧ (fX6_carryAll σ d k).2.2.2 = fX7_allCarried τ d k (-1) 0 := by
  have hv : v ≤ 200 := h.1.2.2.2
  have hn : n ≤ 40 := h.1.1
  have key : ∀ (j i : Nat) (σ1 : St) (p q : Int64), i + j = v → R σ1 τ n m u v → σ1.2.1 6 = d → σ1.2.1 7 = k → gA σ1.2.2.1 w x n 0 = p → σ1.2.2.2 = q → R (flX6_carryAll_11 σ d k j i σ1) τ n m u v ∧ gA (flX6_carryAll_11 σ d k j i σ1).2.2.1 w x n 0 = flX7_allCarried_6 τ d k mk x j i p ∧ (flX6_carryAll_11 σ d k j i σ1).2.2.2 = flX7_allCarried_6 τ d k (-1) 0 j i q := by
    intro j
    induction j with
    | zero => intro i σ1 p q _ h1 _ _ hp hq; exact ⟨h1, hp, hq⟩
    | succ j ih =>
      intro i σ1 p q hi h1 e6 e7 hp hq
      rw [flX6_carryAll_11, flX7_allCarried_6, flX7_allCarried_6, h1.knownF (by omega), nI_clamp (by omega), h1.living, h1.2.2.1 15 (by omega), h1.2.2.1 16 (by omega), h1.2.2.1 17 (by omega)]
      by_cases c1 : fX7_isKnown τ (τ.1 18 i) (τ.1 19 i) k = 0
      · rw [if_pos c1, if_pos c1, if_pos c1]
        exact ih (i + 1) σ1 p q (by omega) h1 e6 e7 hp hq
      · rw [if_neg c1, if_neg c1, if_neg c1]
        by_cases c2 : fX7_living τ (τ.1 15 i) (τ.1 16 i) k = -1
        · rw [if_pos c2, if_pos c2, c2]
          have e : fX0_add σ1 (-1) (τ.1 17 i) = σ1 := by
            unfold fX0_add
            rw [fX0_carry]
            have : fX5_has σ1 (-1) = 0 := by unfold fX5_has; rw [if_pos (by decide)]
            rw [this]
            repeat' split
            all_goals first | rfl | contradiction
          rw [e]
          exact ih (i + 1) σ1 p q (by omega) h1 e6 e7 hp hq
        · rw [if_neg c2, if_neg c2]
          have li := living_in h1.IBm c2
          rw [cl_nI h1.2.1.2.1 (by omega)] at li
          obtain ⟨t, ht, et⟩ := vp_in_of li (by omega)
          rw [et]
          have kp := carry_keep 40 σ1 (nI t) (τ.1 17 i) 0
          obtain ⟨g1, g2⟩ := carry_acc d k mk x hd1 hk1 hmk w hw 40 40 σ1 t 0 (τ.1 17 i) h1 e6 e7 ht (Nat.zero_le _) (by omega) (by omega)
          refine ih (i + 1) (fX0_add σ1 (nI t) (τ.1 17 i)) _ _ (by omega) (h1.congr kp.1 (fun j _ => by show (fX0_carry 40 σ1 (nI t) (τ.1 17 i) 0).2.1 j = _; rw [kp.2])) (by show (fX0_carry 40 σ1 (nI t) (τ.1 17 i) 0).2.1 6 = _; rw [kp.2]; exact e6) (by show (fX0_carry 40 σ1 (nI t) (τ.1 17 i) 0).2.1 7 = _; rw [kp.2]; exact e7) ?_ ?_
          · rw [← hp]; exact g1
          · rw [← hq]; exact g2
  obtain ⟨s1, s2, s3⟩ := h.start d k
  unfold fX6_carryAll fX7_allCarried
  rw [cl_nI s1.2.1.2.2.1 (by omega), cl_nI h.2.1.2.2.2.1 (by omega)]
  have e40 : (40 : Int32).toNatClampNeg = 40 := by decide
  refine key v 0 (fX0_start σ d k) 0 0 (by omega) s1 s2 s3 ?_ ?_
  · refine gA_zero _ _ _ _ _ (fun t ht => ?_)
    unfold fX0_start
    rw [e40]
    exact start_S σ d k 40 0 _ (by omega) (fun t ht => absurd ht (Nat.not_lt_zero t)) t (by omega)
  · unfold fX0_start
    rw [start_Z]
    rfl
theorem R.by (h : R σ τ n m u v) (a b d k : Int32) : (fX6_by σ a b d k).1 = fX7_by τ a b d k ∧ R (fX6_by σ a b d k).2 τ n m u v := by
  have hn : n ≤ 40 := h.1.1
  unfold fX6_by fX7_by fX7_isAsked
  rw [e_isMark σ τ, e_isAnswer σ τ, e_isDay σ τ, e_isDay σ τ]
  by_cases c1 : fX7_isIn τ a 0 3 = 0
  · simp only [c1, if_true]; exact ⟨trivial, h⟩
  by_cases c2 : fX7_isIn τ b 0 100 = 0
  · simp only [c1, c2, if_true, if_false]; exact ⟨trivial, h⟩
  by_cases c3 : fX7_isIn τ d 0 2000 = 0
  · simp only [c1, c2, c3, if_true, if_false]
    refine ⟨?_, h⟩
    split <;> rfl
  by_cases c4 : fX7_isIn τ k 0 2000 = 0
  · simp only [c1, c2, c3, c4, if_true, if_false]; exact ⟨trivial, h⟩
  have n10 : ¬ (1 : Int32) = 0 := by decide
  simp only [c1, c2, c3, c4, n10, if_false]
  have day : ∀ z, ¬ fX7_isIn τ z 0 2000 = 0 → z.toInt ≤ 2000 := by
    intro z c
    unfold fX7_isIn at c
    split at c
    · exact absurd rfl c
    · split at c
      · exact absurd rfl c
      · rename_i q; rw [t_lt, k_2000] at q; omega
  have ha : ¬ a = -1 := by
    intro q
    subst q
    exact c1 (by unfold fX7_isIn; decide)
  obtain ⟨r, g, -⟩ := h.carryAll d k a b (day d c3) (day k c4) ha (fun i => fX7_valueOf τ (nI i) a d k) (fun i _ => rfl)
  have key : ∀ (j i : Nat) (tot : Int64), i + j = n → flX6_by_44 σ a b d k j i tot = (tot + gA (fX6_carryAll σ d k).2.2.1 (fun i => fX7_valueOf τ (nI i) a d k) b j i, fX6_carryAll σ d k) := by
    intro j
    induction j with
    | zero => intro i tot _; rw [flX6_by_44, gA, Int64.add_zero]
    | succ j ih =>
      intro i tot hi
      rw [flX6_by_44, r.value, gA, nI_clamp (by omega), ih (i + 1) tot (by omega), ih (i + 1) (tot + _) (by omega)]
      by_cases c : fX7_valueOf τ (nI i) a d k = b
      · rw [if_pos c, if_pos c, Int64.add_assoc]
      · rw [if_neg c, if_neg c, Int64.zero_add]
  rw [cl_nI r.2.1.1 (by omega), key n 0 0 (by omega), Int64.zero_add]
  exact ⟨g, r⟩
theorem R.sum (h : R σ τ n m u v) (a d k : Int32) : (fX6_sum σ a d k).1 = fX7_sum τ a d k ∧ R (fX6_sum σ a d k).2 τ n m u v := by
  unfold fX6_sum fX7_sum
  rw [e_isDay σ τ, e_isDay σ τ]
  have day : ∀ z, ¬ fX7_isIn τ z 0 2000 = 0 → z.toInt ≤ 2000 := by
    intro z c
    unfold fX7_isIn at c
    split at c
    · exact absurd rfl c
    · split at c
      · exact absurd rfl c
      · rename_i q; rw [t_lt, k_2000] at q; omega
  by_cases c1 : fX7_isIn τ d 0 2000 = 0
  · simp only [c1, if_true]
    refine ⟨?_, h⟩
    split <;> rfl
  by_cases c2 : fX7_isIn τ k 0 2000 = 0
  · simp only [c1, c2, if_true, if_false]
    refine ⟨?_, h⟩
    split <;> rfl
  simp only [c1, c2, if_false]
  by_cases a0 : a = 0
  · subst a0
    have q : ¬ fX7_isIn τ 0 0 2 = 0 := by unfold fX7_isIn; decide
    have q2 : ¬ (0 : Int32) = 2 := by decide
    simp only [q, q2, if_true, if_false]
    exact ⟨h.sumF 0 d k 0 Iff.rfl, h⟩
  by_cases a1 : a = 1
  · subst a1
    have q : ¬ fX7_isIn τ 1 0 2 = 0 := by unfold fX7_isIn; decide
    have q2 : ¬ (1 : Int32) = 2 := by decide
    simp only [q, q2, a0, if_true, if_false]
    exact ⟨h.sumF 1 d k 1 Iff.rfl, h⟩
  by_cases a2 : a = 2
  · subst a2
    have q : ¬ fX7_isIn τ 2 0 2 = 0 := by unfold fX7_isIn; decide
    simp only [q, a0, a1, if_true, if_false]
    obtain ⟨r, -, g⟩ := h.carryAll d k 0 0 (day d c1) (day k c2) (by decide) (fun i => fX7_valueOf τ (nI i) 0 d k) (fun i _ => rfl)
    exact ⟨g, r⟩
  · have : fX7_isIn τ a 0 2 = 0 := by
      unfold fX7_isIn
      split
      · rfl
      · rename_i q
        split
        · rfl
        · rename_i q2
          have k2 : (2 : Int32).toInt = 2 := rfl
          rw [t_lt, k_0] at q
          rw [t_lt, k2] at q2
          rw [t_eq, k_0] at a0
          rw [t_eq, k_1] at a1
          rw [t_eq, k2] at a2
          omega
    simp only [a0, a1, a2, this, if_true, if_false]
    exact ⟨trivial, h⟩
end RC
