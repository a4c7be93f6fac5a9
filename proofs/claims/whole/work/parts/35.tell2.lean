/-! marks, facts, loads -/
section RW2
variable {σ τ : St} {n m u v : Nat}
theorem val_ne (hm : Rm τ u) (hu : u ≤ 300) (t d k : Int32) : ∀ (j i b : Nat), i + j = u → b < u → ¬ flX7_valueOf_6 τ t 0 d k j i (nI b) = 100 := by
  intro j
  induction j with
  | zero =>
    intro i b _ hb
    rw [flX7_valueOf_6, if_neg (nI_nm1 (by omega)), nI_clamp (by omega)]
    obtain ⟨h1, h2⟩ := hm b hb
    rw [t_eq, k_100]
    omega
  | succ j ih =>
    intro i b hi hb
    rw [flX7_valueOf_6]
    repeat' split
    all_goals first | exact ih (i + 1) b (by omega) hb | exact ih (i + 1) i (by omega) (by omega)
def markd (τ : St) (t mk from_ val : Int32) : Int32 × St := (1, (sV (sI (sI (sI (sI (sI (sI τ 9 ((τ.2.1 3).toNatClampNeg) t) 10 ((τ.2.1 3).toNatClampNeg) mk) 11 ((τ.2.1 3).toNatClampNeg) from_) 12 ((τ.2.1 3).toNatClampNeg) val) 13 ((τ.2.1 3).toNatClampNeg) (τ.2.1 0)) 14 ((τ.2.1 3).toNatClampNeg) (τ.2.1 4)) 3 ((τ.2.1 3) + 1)))
theorem mark0 (hm : Rm τ u) (hu : u ≤ 300) (t p q : Int32) : ∀ (j i : Nat), i + j = u → (flX7_valueOf_6 τ t 0 (τ.2.1 0) (τ.2.1 0) j i (-1) = 100 ∧ flX7_mark_48 τ t 0 p q j i = markd τ t 0 p q) ∨ (¬ flX7_valueOf_6 τ t 0 (τ.2.1 0) (τ.2.1 0) j i (-1) = 100 ∧ flX7_mark_48 τ t 0 p q j i = (0, τ)) := by
  intro j
  induction j with
  | zero => intro i _; exact Or.inl ⟨rfl, rfl⟩
  | succ j ih =>
    intro i hi
    rw [flX7_valueOf_6, flX7_mark_48, if_pos rfl]
    by_cases c : fX7_isTelling τ (nI i) t 0 (τ.2.1 0) = 0
    · rw [if_pos c, if_pos c]
      exact ih (i + 1) (by omega)
    · rw [if_neg c, if_neg c, if_pos (by decide), if_pos rfl]
      exact Or.inr ⟨val_ne hm hu t _ _ j (i + 1) i (by omega) (by omega), rfl⟩
theorem mark1 (t mk p q : Int32) (hk : ¬ mk = 0) : ∀ (j i : Nat), flX7_mark_48 τ t mk p q j i = markd τ t mk p q := by
  intro j
  induction j with
  | zero => intro i; rfl
  | succ j ih => intro i; rw [flX7_mark_48, if_neg hk]; exact ih _
theorem R.putMark (h : R σ τ n m u v) (hu : u < 300) (t mk p q : Int32) (hq : 0 ≤ q.toInt ∧ q.toInt ≤ 99) : R (fX4_add σ t mk p q (σ.2.1 0)) (markd τ t mk p q).2 n m (u + 1) v := by
  obtain ⟨⟨b1, b2, b3, b4⟩, ⟨v1, v2, v3, v4, v5, v6, v7, v8, v9, v10, v11⟩, ha, ⟨l1, l2, l3, l4, l5⟩, hm, ht, hh⟩ := h
  have f0 : fX3_isFull_T σ = 0 := by
    unfold fX3_isFull_T
    rw [v5, if_pos (show nI u < 300 from (nI_lt hu (by decide) : nI u < nI 300))]
  have cs : (σ.2.1 3).toNatClampNeg = u := cl_nI v5 (by omega)
  have ct : (τ.2.1 3).toNatClampNeg = u := cl_nI v6 (by omega)
  have ad : fX3_add_T σ (σ.2.1 0) = (nI u, sV (sI (sI σ 13 u (σ.2.1 0)) 14 u (nI m)) 3 (nI (u + 1))) := by
    unfold fX3_add_T
    rw [if_pos f0, cs, v5, v7, nI_1, nI_pred, nI_pred]
  have ef : fX4_add σ t mk p q (σ.2.1 0) = sI (sI (sI (sI (sV (sI (sI σ 13 u (σ.2.1 0)) 14 u (nI m)) 3 (nI (u + 1))) 9 u t) 10 u mk) 11 u p) 12 u q := by
    unfold fX4_add
    rw [ad]
    show (if nI u = -1 then _ else _) = _
    rw [if_neg (nI_nm1 (by omega)), nI_clamp (by omega)]
  have em : (markd τ t mk p q).2 = sV (sI (sI (sI (sI (sI (sI τ 9 u t) 10 u mk) 11 u p) 12 u q) 13 u (τ.2.1 0)) 14 u (nI m)) 3 (nI (u + 1)) := by
    show sV _ 3 _ = _
    rw [ct, v6, v8, nI_1]
  rw [ef, em]
  refine ⟨⟨b1, b2, by omega, b4⟩, ⟨v1, v2, v3, v4, rfl, rfl, v7, v8, v9, v10, v11⟩, ?_, ⟨l1, l2, ?_, l4, l5⟩, ?_, ht, hh⟩
  · intro k hk
    by_cases k9 : k = 9
    · subst k9; show upd (σ.1 9) u t = upd (τ.1 9) u t; rw [ha 9 (by omega)]
    by_cases k10 : k = 10
    · subst k10; show upd (σ.1 10) u mk = upd (τ.1 10) u mk; rw [ha 10 (by omega)]
    by_cases k11 : k = 11
    · subst k11; show upd (σ.1 11) u p = upd (τ.1 11) u p; rw [ha 11 (by omega)]
    by_cases k12 : k = 12
    · subst k12; show upd (σ.1 12) u q = upd (τ.1 12) u q; rw [ha 12 (by omega)]
    by_cases k13 : k = 13
    · subst k13; show upd (σ.1 13) u (σ.2.1 0) = upd (τ.1 13) u (τ.2.1 0); rw [ha 13 (by omega), v9]
    by_cases k14 : k = 14
    · subst k14; show upd (σ.1 14) u (nI m) = upd (τ.1 14) u (nI m); rw [ha 14 (by omega)]
    show va_up _ 12 _ k = va_up _ 14 _ k
    simp only [sI, sV, va_up]
    simp only [k9, k10, k11, k12, k13, k14, if_false]
    exact ha k hk
  · intro j hj
    show vp_in (upd (τ.1 14) u (nI m) j) (m + 1)
    by_cases c : j = u
    · subst c; rw [pk_us]; exact vp_in_nI (by omega) (by omega)
    · rw [pk_un c]; exact l3 j (by omega)
  · intro j hj
    show 0 ≤ (upd (τ.1 12) u q j).toInt ∧ (upd (τ.1 12) u q j).toInt ≤ 99
    by_cases c : j = u
    · subst c; rw [pk_us]; exact hq
    · rw [pk_un c]; exact hm j (by omega)
theorem R.mark (h : R σ τ n m u v) (t mk p q : Int32) : (fX6_mark σ t mk p q).1 = (fX7_mark τ t mk p q).1 ∧ ∃ u', R (fX6_mark σ t mk p q).2 (fX7_mark τ t mk p q).2 n m u' v := by
  have hu : u ≤ 300 := h.1.2.2.1
  have v5 := h.2.1.2.2.2.2.1
  have v6 := h.2.1.2.2.2.2.2.1
  have v9 := h.2.1.2.2.2.2.2.2.2.2.1
  unfold fX6_mark fX7_mark
  rw [h.has, e_isMark σ τ, e_isDay σ τ]
  by_cases x1 : fX7_isIn τ t 0 (τ.2.1 1 - 1) = 0
  · rw [if_pos x1, if_pos x1]; exact ⟨rfl, u, h⟩
  rw [if_neg x1, if_neg x1]
  by_cases x2 : fX7_isIn τ mk 0 3 = 0
  · rw [if_pos x2, if_pos x2]; exact ⟨rfl, u, h⟩
  rw [if_neg x2, if_neg x2]
  by_cases x3 : fX7_isIn τ p 0 2000 = 0
  · rw [if_pos x3, if_pos x3]; exact ⟨rfl, u, h⟩
  rw [if_neg x3, if_neg x3]
  by_cases x4 : fX7_isIn τ q 0 99 = 0
  · rw [if_pos x4]
    have : q < 0 ∨ ¬ q ≤ 99 := by
      rw [t_lt, t_le, k_0, k_99]
      rcases Int.lt_or_le q.toInt 0 with z | z
      · exact Or.inl z
      · refine Or.inr (fun y => ?_)
        exact absurd x4 (isIn_iff.mpr ⟨z, y⟩)
    by_cases y1 : q < 0
    · rw [if_pos y1]; exact ⟨rfl, u, h⟩
    · rw [if_neg y1, if_neg (this.resolve_left y1)]; exact ⟨rfl, u, h⟩
  have i4 := isIn_iff.mp x4
  rw [k_0, k_99] at i4
  rw [if_neg x4, if_neg (show ¬ q < 0 by rw [t_lt, k_0]; omega), if_pos (show q ≤ 99 by rw [t_le, k_99]; omega)]
  by_cases x5 : u = 300
  · have f1 : ¬ fX3_isFull_T σ = 0 := by
      unfold fX3_isFull_T
      rw [v5, x5, if_neg (show ¬ nI 300 < 300 by decide)]
      decide
    have f2 : τ.2.1 3 = 300 := by rw [v6, x5]; rfl
    rw [if_neg f1, if_pos f2]; exact ⟨rfl, u, h⟩
  have f0 : fX3_isFull_T σ = 0 := by
    unfold fX3_isFull_T
    rw [v5, if_pos (show nI u < 300 from (nI_lt (by omega) (by decide) : nI u < nI 300))]
  have f2 : ¬ τ.2.1 3 = 300 := by rw [v6]; exact fun z => x5 ((nI_eq (by omega) (by decide)).mp (show nI u = nI 300 from z))
  rw [if_pos f0, if_neg f2, cl_nI v6 (by omega)]
  by_cases x6 : mk = 0
  · subst x6
    rw [if_pos rfl]
    have e : fX4_valueOn σ t 0 (σ.2.1 0) (σ.2.1 0) = flX7_valueOf_6 τ t 0 (τ.2.1 0) (τ.2.1 0) u 0 (-1) := by
      rw [h.value, v9]
      unfold fX7_valueOf
      rw [cl_nI v6 (by omega)]
    unfold fX6_isFixed
    rw [e]
    rcases mark0 h.2.2.2.2.1 hu t p q u 0 (by omega) with ⟨y1, y2⟩ | ⟨y1, y2⟩
    · rw [if_pos y1, if_pos rfl, y2]
      exact ⟨rfl, u + 1, h.putMark (by omega) t 0 p q i4⟩
    · rw [if_neg y1, if_neg (by decide), y2]
      exact ⟨rfl, u, h⟩
  · rw [if_neg x6, mark1 t mk p q x6]
    exact ⟨rfl, u + 1, h.putMark (by omega) t mk p q i4⟩
theorem R.fact (h : R σ τ n m u v) (c d a : Int32) : (fX6_fact σ c d a).1 = (fX7_fact τ c d a).1 ∧ ∃ v', R (fX6_fact σ c d a).2 (fX7_fact τ c d a).2 n m u v' := by
  have h0 := h
  obtain ⟨⟨b1, b2, b3, b4⟩, ⟨v1, v2, v3, v4, v5, v6, v7, v8, v9, v10, v11⟩, ha, ⟨l1, l2, l3, l4, l5⟩, hm, ht, hh⟩ := h
  unfold fX6_fact fX7_fact
  rw [e_isCode σ τ, e_isDay σ τ]
  by_cases x1 : fX7_isIn τ c 0 99 = 0
  · rw [if_pos x1, if_pos x1]; exact ⟨rfl, v, h0⟩
  rw [if_neg x1, if_neg x1]
  by_cases x2 : fX7_isIn τ d 0 2000 = 0
  · rw [if_pos x2, if_pos x2]; exact ⟨rfl, v, h0⟩
  rw [if_neg x2, if_neg x2]
  have e3 : fX7_isIn τ a (-10000) 10000 = if a < -10000 then 0 else (if 10000 < a then 0 else 1) := rfl
  rw [e3]
  by_cases x3 : a < -10000
  · rw [if_pos x3, if_pos x3, if_pos rfl]; exact ⟨rfl, v, h0⟩
  rw [if_neg x3, if_neg x3]
  by_cases x4 : 10000 < a
  · rw [if_pos x4, if_pos x4, if_pos rfl]; exact ⟨rfl, v, h0⟩
  rw [if_neg x4, if_neg x4, if_neg (show ¬ (1 : Int32) = 0 by decide)]
  by_cases x5 : v = 200
  · have f1 : ¬ fX3_isFull_F σ = 0 := by
      unfold fX3_isFull_F
      rw [v3, x5, if_neg (show ¬ nI 200 < 200 by decide)]
      decide
    have f2 : τ.2.1 2 = 200 := by rw [v4, x5]; rfl
    rw [if_neg f1, if_pos f2]; exact ⟨rfl, v, h0⟩
  have f0 : fX3_isFull_F σ = 0 := by
    unfold fX3_isFull_F
    rw [v3, if_pos (show nI v < 200 from (nI_lt (by omega) (by decide) : nI v < nI 200))]
  have f2 : ¬ τ.2.1 2 = 200 := by rw [v4]; exact fun z => x5 ((nI_eq (by omega) (by decide)).mp (show nI v = nI 200 from z))
  rw [if_pos f0, if_neg f2]
  have cs : (σ.2.1 2).toNatClampNeg = v := cl_nI v3 (by omega)
  have ct : (τ.2.1 2).toNatClampNeg = v := cl_nI v4 (by omega)
  have ad : fX3_add_F σ (σ.2.1 0) = (nI v, sV (sI (sI σ 18 v (σ.2.1 0)) 19 v (nI m)) 2 (nI (v + 1))) := by
    unfold fX3_add_F
    rw [if_pos f0, cs, v3, v7, nI_1, nI_pred, nI_pred]
  have ef : fX1_add σ c d a (σ.2.1 0) = (nI v, sI (sI (sI (sV (sI (sI σ 18 v (σ.2.1 0)) 19 v (nI m)) 2 (nI (v + 1))) 15 v c) 16 v d) 17 v a) := by
    unfold fX1_add
    rw [ad]
    show (if nI v = -1 then _ else _) = _
    rw [if_neg (nI_nm1 (by omega)), nI_clamp (by omega)]
  rw [ef, ct, v4, v8, nI_1, nI_pred]
  refine ⟨rfl, v + 1, ⟨b1, b2, b3, by omega⟩, ⟨v1, v2, rfl, rfl, v5, v6, v7, v8, v9, v10, v11⟩, ?_, ⟨l1, l2, l3, ?_, l5⟩, hm, ht, hh⟩
  · intro k hk
    by_cases k9 : k = 15
    · subst k9; show upd (σ.1 15) v c = upd (τ.1 15) v c; rw [ha 15 (by omega)]
    by_cases k10 : k = 16
    · subst k10; show upd (σ.1 16) v d = upd (τ.1 16) v d; rw [ha 16 (by omega)]
    by_cases k11 : k = 17
    · subst k11; show upd (σ.1 17) v a = upd (τ.1 17) v a; rw [ha 17 (by omega)]
    by_cases k13 : k = 18
    · subst k13; show upd (σ.1 18) v (σ.2.1 0) = upd (τ.1 18) v (τ.2.1 0); rw [ha 18 (by omega), v9]
    by_cases k14 : k = 19
    · subst k14; show upd (σ.1 19) v (nI m) = upd (τ.1 19) v (nI m); rw [ha 19 (by omega)]
    show va_up _ 17 _ k = va_up _ 19 _ k
    simp only [sI, sV, va_up]
    simp only [k9, k10, k11, k13, k14, if_false]
    exact ha k hk
  · intro j hj
    show vp_in (upd (τ.1 19) v (nI m) j) (m + 1)
    by_cases c : j = v
    · subst c; rw [pk_us]; exact vp_in_nI (by omega) (by omega)
    · rw [pk_un c]; exact l4 j (by omega)
theorem R.load (h : R σ τ n m u v) : (fX6_load σ).1 = (fX7_load τ).1 ∧ ∃ m', R (fX6_load σ).2 (fX7_load τ).2 n m' u v := by
  have h0 := h
  obtain ⟨⟨b1, b2, b3, b4⟩, ⟨v1, v2, v3, v4, v5, v6, v7, v8, v9, v10, v11⟩, ha, ⟨l1, l2, l3, l4, l5⟩, hm, ht, hh⟩ := h
  show (fX2_openNext σ).1 = _ ∧ ∃ m', R (fX2_openNext σ).2 (fX7_load τ).2 n m' u v
  unfold fX2_openNext fX7_load
  by_cases x1 : m = 39
  · have e1 : ¬ σ.2.1 4 < 40 := by rw [v7, x1]; decide
    have e2 : τ.2.1 4 = 39 := by rw [v8, x1]; rfl
    rw [if_neg e1, if_pos e2]; exact ⟨rfl, m, h0⟩
  have e1 : σ.2.1 4 < 40 := by rw [v7]; exact (nI_lt (by omega) (by decide) : nI (m + 1) < nI 40)
  have e2 : ¬ τ.2.1 4 = 39 := by rw [v8]; exact fun z => x1 ((nI_eq (by omega) (by decide)).mp (show nI m = nI 39 from z))
  rw [if_pos e1, if_neg e2, cl_nI v7 (by omega), v7, v8, nI_1, nI_1, nI_pred]
  refine ⟨rfl, m + 1, ⟨b1, by omega, b3, b4⟩, ⟨v1, v2, v3, v4, v5, v6, rfl, rfl, v9, v10, v11⟩, ?_, ⟨?_, fun l h1 h2 => l2 l (by omega) h2, fun j hj => vp_in_mono (l3 j hj) (by omega), fun j hj => vp_in_mono (l4 j hj) (by omega), l5⟩, hm, ht, hh⟩
  · intro k hk
    show va_up _ 20 _ k = τ.1 k
    simp only [va_up]
    simp only [show ¬ k = 20 by omega, if_false]
    exact ha k hk
  · intro l hl
    show upd (σ.1 20) (m + 1) 2001 l = τ.1 20 l
    by_cases c : l = m + 1
    · subst c; rw [pk_us]; exact (l2 _ (by omega) (by omega)).symm
    · rw [pk_un c]; exact l1 l (by omega)
def cc (f : Nat → Int32) (p : Int32) : Nat → Nat → Int32 → Int32
  | 0, _, x => x
  | k + 1, i, x => if f i = p then cc f p k (i + 1) (x + 1) else cc f p k (i + 1) x
theorem cc_add (f : Nat → Int32) (p : Int32) : ∀ (k i : Nat) (x y : Int32), cc f p k i (x + y) = x + cc f p k i y := by
  intro k
  induction k with
  | zero => intro i x y; rfl
  | succ k ih =>
    intro i x y
    rw [cc, cc, Int32.add_assoc, ih (i + 1) x (y + 1), ih (i + 1) x y]
    split <;> rfl
theorem cc_T (σ : St) (p : Int32) : ∀ (k i : Nat) (x : Int32), flX3_sizeOfLoad_T_4 σ p k i x = cc (σ.1 14) p k i x := by
  intro k
  induction k with
  | zero => intro i x; rfl
  | succ k ih => intro i x; rw [flX3_sizeOfLoad_T_4, cc, ih, ih]
theorem cc_F (σ : St) (p : Int32) : ∀ (k i : Nat) (x : Int32), flX3_sizeOfLoad_F_4 σ p k i x = cc (σ.1 19) p k i x := by
  intro k
  induction k with
  | zero => intro i x; rfl
  | succ k ih => intro i x; rw [flX3_sizeOfLoad_F_4, cc, ih, ih]
theorem cc_79 (τ : St) (p : Int32) : ∀ (k i : Nat) (x : Int32), flX7_undo_79 τ p k i x = (cc (τ.1 19) p k i x, sI τ 20 p.toNatClampNeg (τ.2.1 0)) := by
  intro k
  induction k with
  | zero => intro i x; rfl
  | succ k ih =>
    intro i x
    have o0 : fX7_one (sI τ 20 p.toNatClampNeg (τ.2.1 0)) 0 = 0 := rfl
    have o1 : fX7_one (sI τ 20 p.toNatClampNeg (τ.2.1 0)) 1 = 1 := rfl
    rw [flX7_undo_79, cc, ih, ih, o0, o1, Int32.add_zero]
    split <;> rfl
theorem cc_42 (τ : St) (p : Int32) : ∀ (k i : Nat) (x : Int32), flX7_undo_42 τ p k i x = flX7_undo_79 τ p (τ.2.1 2).toNatClampNeg 0 (cc (τ.1 14) p k i x) := by
  intro k
  induction k with
  | zero => intro i x; rfl
  | succ k ih =>
    intro i x
    have o0 : fX7_one (sI τ 20 p.toNatClampNeg (τ.2.1 0)) 0 = 0 := rfl
    have o1 : fX7_one (sI τ 20 p.toNatClampNeg (τ.2.1 0)) 1 = 1 := rfl
    rw [flX7_undo_42, cc, ih, ih, o0, o1, Int32.add_zero]
    split <;> rfl
theorem cnt_s (f : Nat → Int32) : ∀ (k i : Nat) (x : Int32), cnt f k i (x + 1) = cnt f k i x + 1 := by
  intro k
  induction k with
  | zero => intro i x; rfl
  | succ k ih =>
    intro i x
    rw [cnt, cnt, ih (i + 1) (x + 1), ih (i + 1) x]
    split <;> rfl
theorem cnt_out (f : Nat → Int32) (l : Nat) (y : Int32) : ∀ (k i : Nat) (x : Int32), l < i → cnt (upd f l y) k i x = cnt f k i x := by
  intro k
  induction k with
  | zero => intro i x _; rfl
  | succ k ih => intro i x hl; rw [cnt, cnt, pk_un (by omega), ih _ _ (by omega), ih _ _ (by omega)]
theorem cnt_upd (f : Nat → Int32) (l : Nat) (y : Int32) (hf : f l = 2001) (hy : ¬ y = 2001) : ∀ (k i : Nat) (x : Int32), i ≤ l → l < i + k → cnt (upd f l y) k i x = cnt f k i x + 1 := by
  intro k
  induction k with
  | zero => intro i x h1 h2; omega
  | succ k ih =>
    intro i x h1 h2
    rw [cnt, cnt]
    by_cases c : i = l
    · subst c
      rw [pk_us, if_neg hy, if_pos hf, cnt_out f i y k (i + 1) (x + 1) (by omega), cnt_s]
    · rw [pk_un c, ih (i + 1) x (by omega) (by omega), ih (i + 1) (x + 1) (by omega) (by omega)]
      split <;> rfl
theorem R.undo (h : R σ τ n m u v) (p : Int32) : (fX6_undo σ p).1 = (fX7_undo τ p).1 ∧ R (fX6_undo σ p).2 (fX7_undo τ p).2 n m u v := by
  have h0 := h
  obtain ⟨⟨b1, b2, b3, b4⟩, ⟨v1, v2, v3, v4, v5, v6, v7, v8, v9, v10, v11⟩, ha, ⟨l1, l2, l3, l4, l5⟩, hm, ht, hh⟩ := h
  unfold fX6_undo fX7_undo fX2_canBeUndone
  rw [v7, v8, nI_pred]
  by_cases x1 : fX7_isIn τ p 0 (nI m - 1) = 0
  · rw [if_pos x1]
    have : (if p < 0 then 0 else (if nI m ≤ p then 0 else (if σ.1 20 p.toNatClampNeg = 2001 then 1 else 0)) : Int32) = 0 := by
      unfold fX7_isIn at x1
      by_cases q1 : p < 0
      · rw [if_pos q1]
      · rw [if_neg q1] at x1 ⊢
        by_cases q2 : nI m - 1 < p
        · rw [if_pos ((e_size rfl (by omega) q1).mpr q2)]
        · rw [if_neg q2] at x1
          exact absurd x1 (by decide)
    rw [if_pos this]
    exact ⟨rfl, h0⟩
  have hp := isIn_in (N := 39) (z := nI m) (szI_nI rfl b2 (by decide)) (by decide) x1
  rw [nI_clamp (by omega)] at hp
  obtain ⟨l, hl, rfl⟩ := vp_in_of hp (by omega)
  have cl : (nI l).toNatClampNeg = l := nI_clamp (by omega)
  rw [if_neg x1, if_neg (nI_pos (by omega)), if_neg (nI_ge hl (by omega)), cl, l1 l (by omega)]
  by_cases x2 : τ.1 20 l = 2001
  · rw [if_pos x2, if_neg (by decide), if_pos x2, cc_42, cc_79, cl]
    refine ⟨?_, ⟨b1, b2, b3, b4⟩, ⟨v1, v2, v3, v4, v5, v6, v7, v8, v9, v10, v11⟩, ?_, ⟨?_, ?_, l3, l4, ?_⟩, hm, ht, hh⟩
    · show fX3_sizeOfLoad_T (fX2_setUndone σ (nI l) (σ.2.1 0)) (nI l) + fX3_sizeOfLoad_F (fX2_setUndone σ (nI l) (σ.2.1 0)) (nI l) = cc (τ.1 19) (nI l) (τ.2.1 2).toNatClampNeg 0 (cc (τ.1 14) (nI l) (τ.2.1 3).toNatClampNeg 0 0)
      unfold fX3_sizeOfLoad_T fX3_sizeOfLoad_F
      rw [cc_T, cc_F]
      show cc (σ.1 14) (nI l) (σ.2.1 3).toNatClampNeg 0 0 + cc (σ.1 19) (nI l) (σ.2.1 2).toNatClampNeg 0 0 = _
      rw [ha 14 (by omega), ha 19 (by omega), v3, v4, v5, v6, ← cc_add, Int32.add_zero]
    · intro k hk
      show va_up _ 20 _ k = va_up _ 20 _ k
      simp only [va_up]
      simp only [show ¬ k = 20 by omega, if_false]
      exact ha k hk
    · intro j hj
      show upd (σ.1 20) (nI l).toNatClampNeg (σ.2.1 0) j = upd (τ.1 20) l (τ.2.1 0) j
      rw [cl, v9]
      by_cases c : j = l
      · subst c; rw [pk_us, pk_us]
      · rw [pk_un c, pk_un c]; exact l1 j hj
    · intro j h1 h2
      show upd (τ.1 20) l (τ.2.1 0) j = 2001
      rw [pk_un (by omega)]
      exact l2 j h1 h2
    · show σ.2.1 5 + 1 = cnt (upd (τ.1 20) l (τ.2.1 0)) 40 0 0
      rw [cnt_upd (τ.1 20) l (τ.2.1 0) x2 (by rw [t_eq, k_2001]; omega) 40 0 0 (by omega) (by omega), l5]
  · rw [if_neg x2, if_pos rfl, if_neg x2]
    exact ⟨rfl, h0⟩
end RW2
