theorem fillU_at : ∀ (k i : Nat) (f : Nat → Int32) (l : Nat), fillU k i f l = if i ≤ l ∧ l < i + k then 2001 else f l := by
  intro k
  induction k with
  | zero => intro i f l; rw [fillU, if_neg (by omega)]
  | succ k ih =>
    intro i f l
    rw [fillU, ih]
    by_cases c : l = i
    · subst c
      rw [if_neg (by omega), if_pos (by omega), pk_us]
    · rw [pk_un c]
      by_cases c2 : i + 1 ≤ l ∧ l < i + 1 + k
      · rw [if_pos c2, if_pos (by omega)]
      · rw [if_neg c2, if_neg (by omega)]
theorem cnt_all (f : Nat → Int32) : ∀ (k i : Nat) (x : Int32), (∀ l, i ≤ l → l < i + k → f l = 2001) → cnt f k i x = x := by
  intro k
  induction k with
  | zero => intro i x _; rfl
  | succ k ih =>
    intro i x h
    rw [cnt, if_pos (h i (Nat.le_refl _) (by omega))]
    exact ih (i + 1) x (fun l h1 h2 => h l (by omega) (by omega))
theorem R_0 : R s0C s0M 0 0 0 0 := by
  have e20 : s0M.1 20 = fillU 40 0 (fun _ => 0) := rfl
  have c20 : s0C.1 20 = upd (fun _ => 0) 0 2001 := rfl
  have fu : ∀ l, l < 40 → s0M.1 20 l = 2001 := fun l hl => by rw [e20, fillU_at, if_pos (by omega)]
  refine ⟨⟨by omega, by omega, by omega, by omega⟩, ⟨rfl, rfl, rfl, rfl, rfl, rfl, rfl, rfl, rfl, by decide, by decide⟩, ?_, ⟨?_, fun l _ hl => fu l hl, fun j hj => absurd hj (Nat.not_lt_zero j), fun j hj => absurd hj (Nat.not_lt_zero j), ?_⟩, fun j hj => absurd hj (Nat.not_lt_zero j), fun j hj => absurd hj (Nat.not_lt_zero j), fun j hj => absurd hj (Nat.not_lt_zero j), fun t _ => rfl⟩
  · intro k hk
    show va_up (fun _ _ => (0 : Int32)) 20 (upd (fun _ => 0) 0 2001) k = va_up (fun _ _ => (0 : Int32)) 20 (fillU 40 0 (fun _ => 0)) k
    simp only [va_up]
    simp only [show ¬ k = 20 by omega, if_false]
  · intro l hl
    have : l = 0 := by omega
    subst this
    rw [fu 0 (by omega), c20, pk_us]
  · rw [cnt_all _ 40 0 0 (fun l _ hl => fu l (by omega))]
    rfl
theorem D_dT {A : Nat → Prop} {ws : va_W} {N : Nat} {q : Nat → Nat} (h : va_D A ws) (hm : ws.map Prod.fst = (List.range N).map q) : dT N q ∧ ∀ i, i < N → A (q i) := by
  have key : ∀ i, i < N → ∃ x, ws[i]? = some x ∧ x.1 = q i := by
    intro i hi
    have h1 : (ws.map Prod.fst)[i]? = some (q i) := by rw [hm, List.getElem?_map, List.getElem?_range hi]; rfl
    rw [List.getElem?_map] at h1
    cases hx : ws[i]? with
    | none => rw [hx] at h1; cases h1
    | some x => rw [hx] at h1; exact ⟨x, rfl, Option.some.inj h1⟩
  refine ⟨fun i j hi hj e => ?_, fun i hi => ?_⟩
  · obtain ⟨x, h1, h2⟩ := key i hi
    obtain ⟨y, h3, h4⟩ := key j hj
    exact h.1 i j x y h1 h3 (by rw [h2, h4, e])
  · obtain ⟨x, h1, h2⟩ := key i hi
    rw [← h2]
    exact h.2 i x h1
theorem P_lt {D : va_G} {ws : va_W} {N : Nat} {q : Nat → Nat} {H : Heap} (h : va_P D vwCl ws H) (hm : ws.map Prod.fst = (List.range N).map q) : ∀ i, i < N → q i < H.size := by
  intro i hi
  have h1 : (ws.map Prod.fst)[i]? = some (q i) := by rw [hm, List.getElem?_map, List.getElem?_range hi]; rfl
  rw [List.getElem?_map] at h1
  cases hx : ws[i]? with
  | none => rw [hx] at h1; cases h1
  | some x =>
    rw [hx] at h1
    have e : x.1 = q i := Option.some.inj h1
    rw [← e]
    exact (h i x hx).lt
theorem go_on {L i : Nat} (hL : L ≤ 3584) (hi : i ≤ 4000) (c : ¬ (nI L - 7) < nI i) : i + 7 ≤ L := by
  rw [t_lt, show (nI L - 7).toInt = (L : Int) - 7 from pk_sub_toInt (a := L) (b := 7) (by omega) (by decide), nI_toInt (by omega)] at c
  omega

set_option maxHeartbeats 4000000 in
set_option maxRecDepth 100000 in
/-- THE LAW'S LOOP -/
theorem law_loop {p : Program} {l : Launch} {e : Env} {s : State} {m : MethodId} {below : List Frame} {meth : Method} {c : Code} {dC : Nat → ClassId} {dI : Nat → Nat → Nat} {cI cJ : ClassId} {b L : Nat} {xs : Nat → Int32} (hL : L ≤ 3584) (C0 : lw_At p s m meth c b L xs) (hK : va_K (dC, dI) vwCl (tyC cI cJ) s) {q r : Nat → Nat} (F : LF s q r) :
    ∀ (k i : Nat) (σ τ : St) (H : Heap) (locs : List Loc), i ≤ 4000 → L < i + k → (∃ n m u v, R σ τ n m u v) → va_P (dC, dI) vwCl (wT cI cJ q σ) H → va_P (dC, dI) vwCl (wM cI cJ r τ) H → va_S (fun a : Nat => s.heap.size ≤ a) s.heap H locs → ∀ (ls : Array Slot), lv_has ls 4 [(0, .ref b), (1, .ref (q 0)), (2, .ref (r 0)), (3, .int (nI i))] → W p l e room_1 s m #[Value.ref b] below meth c H locs 600000 7302250 (lw_Z below #[Value.ref b] s) (F0 m 18 ls []) := by
  obtain ⟨hx, hb, hr, hml, hown, hts, hX, hbl, hlocks, hgv⟩ := id C0
  have hbA : ¬ (fun a : Nat => s.heap.size ≤ a) b := Nat.not_le.mpr hbl
  intro k
  induction k with
  | zero =>
    intro i σ τ H locs hi hk hR hPT hPM hS ls hl
    have hlt : L < i := by omega
    refine lv_iload_n hx hb dL_law_18 rfl (lv_at hl 3 rfl) ?_
    refine lv_aload_n hx hb dL_law_19 rfl (lv_at hl 0 rfl) ?_
    refine va_slen hx hb hX hbl hbA hS dL_law_20 ?_
    refine lv_bipush (v := 7) hx hb dL_law_21 (by decide) ?_
    refine lv_isub hx hb dL_law_23 ?_
    refine lv_icmp_gt (tgt := 875) hx hb dL_law_24 (by decide) (fun c_0 => ?_) (fun c_0 => ?_)
    · refine lv_iconst (v := 1) hx hb dL_law_875 (by decide) ?_
      refine va_forget (fun q hq => hS.2.2 q hq) ?_
      exact lw_ret hx hb hr hlocks dL_law_876
    · have := go_on hL hi c_0
      omega
  | succ k ih =>
    intro i σ τ H locs hi hk hR hPT hPM hS ls hl
    refine lv_iload_n hx hb dL_law_18 rfl (lv_at hl 3 rfl) ?_
    refine lv_aload_n hx hb dL_law_19 rfl (lv_at hl 0 rfl) ?_
    refine va_slen hx hb hX hbl hbA hS dL_law_20 ?_
    refine lv_bipush (v := 7) hx hb dL_law_21 (by decide) ?_
    refine lv_isub hx hb dL_law_23 ?_
    refine lv_icmp_gt (tgt := 875) hx hb dL_law_24 (by decide) (fun c_0 => ?_) (fun c_0 => ?_)
    · refine lv_iconst (v := 1) hx hb dL_law_875 (by decide) ?_
      refine va_forget (fun q hq => hS.2.2 q hq) ?_
      exact lw_ret hx hb hr hlocks dL_law_876
    · have hi7 := go_on hL hi c_0
      have K : ∀ (σ τ : St) (H : Heap) (locs : List Loc), (∃ n m u v, R σ τ n m u v) → va_P (dC, dI) vwCl (wT cI cJ q σ) H → va_P (dC, dI) vwCl (wM cI cJ r τ) H → va_S (fun a : Nat => s.heap.size ≤ a) s.heap H locs → W p l e room_1 s m #[Value.ref b] below meth c H locs 600000 7302250 (lw_Z below #[Value.ref b] s) (F0 m 869 ls []) := by
        intro σ τ H locs hR hPT hPM hS
        refine lv_iinc (v := nI (i + 7)) (lv' := [(3, .int (nI (i + 7))), (0, .ref b), (1, .ref (q 0)), (2, .ref (r 0))]) hx hb dL_law_869 hl (k := 3) rfl (nI_add i 7) (by decide) rfl (fun ls hl => ?_)
        refine lv_goto (tgt := 18) hx hb dL_law_872 (by decide) ?_
        exact ih (i + 7) σ τ H locs (by omega) (by omega) hR hPT hPM hS ls (lv_sub hl [1, 2, 3, 0] rfl)
      obtain ⟨n, m', u, v, hR⟩ := hR
      refine lv_aload_n hx hb dL_law_27 rfl (lv_at hl 0 rfl) ?_
      refine lv_iload_n hx hb dL_law_28 rfl (lv_at hl 3 rfl) ?_
      refine xl_sld hx hb hX hbl hbA hS i rfl (by omega) hL dL_law_29 ?_
      refine lv_bipush (v := 31) hx hb dL_law_30 (by decide) ?_
      refine lv_iand hx hb dL_law_32 ?_
      by_cases c_0 : xs i &&& 31 = 0
      · refine xs_in (tgt := 120) hx hb 0 c_0 dL_law_33 (by decide) (by decide) rfl (by decide) ?_
        exact law_c0 hL C0 hK F hR hi7 hPT hPM hS hl K
      by_cases c_1 : xs i &&& 31 = 1
      · refine xs_in (tgt := 143) hx hb 1 c_1 dL_law_33 (by decide) (by decide) rfl (by decide) ?_
        exact law_c1 hL C0 hK F hR hi7 hPT hPM hS hl K
      by_cases c_2 : xs i &&& 31 = 2
      · refine xs_in (tgt := 176) hx hb 2 c_2 dL_law_33 (by decide) (by decide) rfl (by decide) ?_
        exact law_c2 hL C0 hK F hR hi7 hPT hPM hS hl K
      by_cases c_3 : xs i &&& 31 = 3
      · refine xs_in (tgt := 209) hx hb 3 c_3 dL_law_33 (by decide) (by decide) rfl (by decide) ?_
        exact law_c3 hL C0 hK F hR hi7 hPT hPM hS hl K
      by_cases c_4 : xs i &&& 31 = 4
      · refine xs_in (tgt := 284) hx hb 4 c_4 dL_law_33 (by decide) (by decide) rfl (by decide) ?_
        exact law_c4 hL C0 hK F hR hi7 hPT hPM hS hl K
      by_cases c_5 : xs i &&& 31 = 5
      · refine xs_in (tgt := 337) hx hb 5 c_5 dL_law_33 (by decide) (by decide) rfl (by decide) ?_
        exact law_c5 hL C0 hK F hR hi7 hPT hPM hS hl K
      by_cases c_6 : xs i &&& 31 = 6
      · refine xs_in (tgt := 390) hx hb 6 c_6 dL_law_33 (by decide) (by decide) rfl (by decide) ?_
        exact law_c6 hL C0 hK F hR hi7 hPT hPM hS hl K
      by_cases c_7 : xs i &&& 31 = 7
      · refine xs_in (tgt := 433) hx hb 7 c_7 dL_law_33 (by decide) (by decide) rfl (by decide) ?_
        exact law_c7 hL C0 hK F hR hi7 hPT hPM hS hl K
      by_cases c_8 : xs i &&& 31 = 8
      · refine xs_in (tgt := 446) hx hb 8 c_8 dL_law_33 (by decide) (by decide) rfl (by decide) ?_
        exact law_c8 hL C0 hK F hR hi7 hPT hPM hS hl K
      by_cases c_9 : xs i &&& 31 = 9
      · refine xs_in (tgt := 469) hx hb 9 c_9 dL_law_33 (by decide) (by decide) rfl (by decide) ?_
        exact law_c9 hL C0 hK F hR hi7 hPT hPM hS hl K
      by_cases c_10 : xs i &&& 31 = 10
      · refine xs_in (tgt := 522) hx hb 10 c_10 dL_law_33 (by decide) (by decide) rfl (by decide) ?_
        exact law_c10 hL C0 hK F hR hi7 hPT hPM hS hl K
      by_cases c_11 : xs i &&& 31 = 11
      · refine xs_in (tgt := 565) hx hb 11 c_11 dL_law_33 (by decide) (by decide) rfl (by decide) ?_
        exact law_c11 hL C0 hK F hR hi7 hPT hPM hS hl K
      by_cases c_12 : xs i &&& 31 = 12
      · refine xs_in (tgt := 598) hx hb 12 c_12 dL_law_33 (by decide) (by decide) rfl (by decide) ?_
        exact law_c12 hL C0 hK F hR hi7 hPT hPM hS hl K
      by_cases c_13 : xs i &&& 31 = 13
      · refine xs_in (tgt := 641) hx hb 13 c_13 dL_law_33 (by decide) (by decide) rfl (by decide) ?_
        exact law_c13 hL C0 hK F hR hi7 hPT hPM hS hl K
      by_cases c_14 : xs i &&& 31 = 14
      · refine xs_in (tgt := 685) hx hb 14 c_14 dL_law_33 (by decide) (by decide) rfl (by decide) ?_
        exact law_c14 hL C0 hK F hR hi7 hPT hPM hS hl K
      by_cases c_15 : xs i &&& 31 = 15
      · refine xs_in (tgt := 739) hx hb 15 c_15 dL_law_33 (by decide) (by decide) rfl (by decide) ?_
        exact law_c15 hL C0 hK F hR hi7 hPT hPM hS hl K
      by_cases c_16 : xs i &&& 31 = 16
      · refine xs_in (tgt := 783) hx hb 16 c_16 dL_law_33 (by decide) (by decide) rfl (by decide) ?_
        exact law_c16 hL C0 hK F hR hi7 hPT hPM hS hl K
      by_cases c_17 : xs i &&& 31 = 17
      · refine xs_in (tgt := 846) hx hb 17 c_17 dL_law_33 (by decide) (by decide) rfl (by decide) ?_
        exact law_c17 hL C0 hK F hR hi7 hPT hPM hS hl K
      refine lv_tableOut (tgt := 869) hx hb dL_law_33 (xs_out (n := 18) (by decide) (fun k hk => by
          match k, hk with
          | 0, _ => exact c_0
          | 1, _ => exact c_1
          | 2, _ => exact c_2
          | 3, _ => exact c_3
          | 4, _ => exact c_4
          | 5, _ => exact c_5
          | 6, _ => exact c_6
          | 7, _ => exact c_7
          | 8, _ => exact c_8
          | 9, _ => exact c_9
          | 10, _ => exact c_10
          | 11, _ => exact c_11
          | 12, _ => exact c_12
          | 13, _ => exact c_13
          | 14, _ => exact c_14
          | 15, _ => exact c_15
          | 16, _ => exact c_16
          | 17, _ => exact c_17
          | k + 18, h => exact absurd h (by omega))) (by decide) ?_
      exact K _ _ _ _ ⟨n, m', u, v, hR⟩ hPT hPM hS

set_option maxHeartbeats 4000000 in
set_option maxRecDepth 100000 in
/-- THE LAW, from its entry -/
theorem whole_start {p : Program} {e : Env} {s : State} {m : MethodId} {below : List Frame} {meth : Method} {c : Code} (l : Launch) {b L : Nat} {xs : Nat → Int32} (hL : L ≤ 3584) (C0 : lw_At p s m meth c b L xs) : W p l e room_1 s m #[Value.ref b] below meth c s.heap [] 0 0 (lw_Z below #[Value.ref b] s) (entryFrame m ([Value.ref b] : List Value).toArray 4) := by
  obtain ⟨hx, hb, hr, hml, hown, hts, hX, hbl, hlocks, hgv⟩ := id C0
  have hown : s.vm.findClass RL = some m.cls := hown
  have hts : ∀ w ∈ tb, w.before #[Value.ref b] s = true := fun w hw => hts w (List.mem_filter.mp hw).1
  have hA : ∀ q : Nat, s.heap.size ≤ q → (fun q : Nat => s.heap.size ≤ q) q := fun _ h => h
  obtain ⟨c0, iS0, hKn0⟩ := u_known (C := RX0) (T := TX0) (N := 5) (n := 5) hts inX0 (hts _ ib_X0)
  obtain ⟨c1, iS1, hKn1⟩ := u_known (C := RX1) (T := TX1) (N := 4) (n := 4) hts inX1 (hts _ ib_X1)
  obtain ⟨c2, iS2, hKn2⟩ := u_known (C := RX2) (T := TX2) (N := 3) (n := 3) hts inX2 (hts _ ib_X2)
  obtain ⟨c3, iS3, hKn3⟩ := u_known (C := RX3) (T := TX3) (N := 5) (n := 5) hts inX3 (hts _ ib_X3)
  obtain ⟨c4, iS4, hKn4⟩ := u_known (C := RX4) (T := TX4) (N := 5) (n := 5) hts inX4 (hts _ ib_X4)
  obtain ⟨c5, iS5, hKn5⟩ := u_known (C := RX5) (T := TX5) (N := 10) (n := 10) hts inX5 (hts _ ib_X5)
  obtain ⟨c6, iS6, hKn6⟩ := u_known (C := RX6) (T := TX6) (N := 6) (n := 6) hts inX6 (hts _ ib_X6)
  obtain ⟨c7, iS7, hKn7⟩ := u_known (C := RX7) (T := TX7) (N := 26) (n := 26) hts inX7 (hts _ ib_X7)
  obtain ⟨dC, dI, hKc⟩ : ∃ (dC : Nat → ClassId) (dI : Nat → Nat → Nat), ∀ (k : Nat) (q : vw_C), vwCl[k]? = some q → u_Kn s q.1 q.2.1 q.2.2 (dC k) (dI k) := by
    refine ⟨fun k => if k = 0 then c0 else if k = 1 then c1 else if k = 2 then c2 else if k = 3 then c3 else if k = 4 then c4 else if k = 5 then c5 else if k = 6 then c6 else c7, fun k => if k = 0 then iS0 else if k = 1 then iS1 else if k = 2 then iS2 else if k = 3 then iS3 else if k = 4 then iS4 else if k = 5 then iS5 else if k = 6 then iS6 else iS7, ?_⟩
    intro k q hq
    match k, hq with
    | 0, hq => cases hq; exact hKn0
    | 1, hq => cases hq; exact hKn1
    | 2, hq => cases hq; exact hKn2
    | 3, hq => cases hq; exact hKn3
    | 4, hq => cases hq; exact hKn4
    | 5, hq => cases hq; exact hKn5
    | 6, hq => cases hq; exact hKn6
    | 7, hq => cases hq; exact hKn7
    | k + 8, hq => simp [vwCl] at hq
  obtain ⟨cI, aI1, aI2⟩ := k_arr (hts _ ac_I)
  obtain ⟨cJ, aJ1, aJ2⟩ := k_arr (hts _ ac_J)
  have hK : va_K (dC, dI) vwCl (tyC cI cJ) s := ⟨hKc, fun k q h => by
    match k, h with
    | 0, h => cases h; exact ⟨aI1, aI2⟩
    | 1, h => cases h; exact ⟨aJ1, aJ2⟩
    | k + 2, h => simp at h⟩
  have hS : va_S (fun q : Nat => s.heap.size ≤ q) s.heap s.heap [] := va_S.rf
  have hP : va_P (dC, dI) vwCl [] s.heap := fun k q h => by simp at h
  have hD : va_D (fun q : Nat => s.heap.size ≤ q) [] := ⟨fun i j p q h => by simp at h, fun k q h => by simp at h⟩
  have hl := lv_entry ([.ref b]) (n := 4) (Nat.le_of_ble_eq_true rfl)
  rw [lg_entry_eq]
  generalize (lg_sl ([.ref b]) ++ List.replicate (4 - (lg_sl ([.ref b])).length) Slot.unset).toArray = ls at hl ⊢
  have hl : lv_has ls 4 [(0, .ref b)] := hl
  refine va_new (ci := 6) (fs := [.null, .null, .null, .null, .null, .int 0]) (C := RX6) (T := TX6) (N := 6) hx hb hts inX6 tyX6 tyX6_ok hown (hts _ cl_L_7) (hts _ ib_X6) (hts _ in_X6) hK hP hD hS hA rfl (fun j hj => by rcases (show j = 0 ∨ j = 1 ∨ j = 2 ∨ j = 3 ∨ j = 4 ∨ j = 5 by omega) with rfl | rfl | rfl | rfl | rfl | rfl <;> rfl) (Nat.le_of_ble_eq_true rfl) (Nat.le_of_ble_eq_true rfl) dL_law_0 (fun q0 H hP hD hS => ?_)
  have hP : va_P (dC, dI) vwCl [(q0, .inr (6, [.null, .null, .null, .null, .null, .int 0]))] H := hP
  have hD : va_D (fun q : Nat => s.heap.size ≤ q) [(q0, .inr (6, [.null, .null, .null, .null, .null, .int 0]))] := hD
  refine W.widen (k := 1) (n := 6) (by omega) (by omega) ?_
  refine lv_dup hx hb dL_law_3 rfl ?_
  have hFc := va_free (wc := [(q0, .inr (6, [.null, .null, .null, .null, .null, .int 0]))]) hD hS hA [0] rfl
  refine va_callv (va_runI (As := []) (rest := [.ref q0]) ⟨hx, hb, hml, hown, hts⟩ (c_X6_init l dC dI cI cJ q0 H.size) (cwI 0 hts (gI co_X6_init) rfl rfl rfl (hts _ in_X6) (hts _ ml_L_9) (hts _ im_X6_init) rfl (by decide +kernel) ⟨Nat.le_of_ble_eq_true rfl, Nat.le_of_ble_eq_true rfl⟩) (nPre hK hP hD) rfl rfl hl.1 rfl (lv_room (Nat.le_of_ble_eq_true rfl)) dL_law_4 ⟨Nat.le_of_ble_eq_true rfl, Nat.le_of_ble_eq_true rfl⟩) hS (fun q _ h => hFc q h) hFc (fun q t H1 locs ht hvm hw hB hz1 hk1 hS => ?_)
  obtain ⟨hP1, hD1⟩ := hB
  rw [ht] at hP1
  have hw : q 0 = q0 := hw
  subst hw
  obtain ⟨dq, aq⟩ := D_dT hD1 (N := 30) (q := q) rfl
  have gq : ∀ i, i < 30 → s.heap.size ≤ q i := fun i hi => hFc _ (aq i hi)
  have hDT : va_D (fun q : Nat => s.heap.size ≤ q) (wT cI cJ q s0C) := hD1.weaken (fun k x _ h => hFc x.1 h)
  refine W.widen (k := 30) (n := 3283) (by omega) (by omega) ?_
  refine lv_astore_n (lv' := [(1, .ref (q 0)), (0, .ref b)]) hx hb dL_law_7 rfl hl (by decide) rfl (fun ls hl => ?_)
  refine va_new (ci := 7) (fs := [.int 0, .int 0, .int 0, .int 0, .int 0, .null, .null, .null, .null, .null, .null, .null, .null, .null, .null, .null, .null, .null, .null, .null, .null, .null, .null, .null, .null, .null]) (C := RX7) (T := TX7) (N := 26) hx hb hts inX7 tyX7 tyX7_ok hown (hts _ cl_L_10) (hts _ ib_X7) (hts _ in_X7) hK hP1 hDT hS hA rfl (fun j hj => by rcases (show j = 0 ∨ j = 1 ∨ j = 2 ∨ j = 3 ∨ j = 4 ∨ j = 5 ∨ j = 6 ∨ j = 7 ∨ j = 8 ∨ j = 9 ∨ j = 10 ∨ j = 11 ∨ j = 12 ∨ j = 13 ∨ j = 14 ∨ j = 15 ∨ j = 16 ∨ j = 17 ∨ j = 18 ∨ j = 19 ∨ j = 20 ∨ j = 21 ∨ j = 22 ∨ j = 23 ∨ j = 24 ∨ j = 25 by omega) with rfl | rfl | rfl | rfl | rfl | rfl | rfl | rfl | rfl | rfl | rfl | rfl | rfl | rfl | rfl | rfl | rfl | rfl | rfl | rfl | rfl | rfl | rfl | rfl | rfl | rfl <;> rfl) (Nat.le_of_ble_eq_true rfl) (Nat.le_of_ble_eq_true rfl) dL_law_8 (fun r0 H hP hD hS => ?_)
  have hPT := hP.sub (ws' := wT cI cJ q s0C) [0, 1, 2, 3, 4, 5, 6, 7, 8, 9, 10, 11, 12, 13, 14, 15, 16, 17, 18, 19, 20, 21, 22, 23, 24, 25, 26, 27, 28, 29] rfl
  have hPc := hP.sub (ws' := [(r0, .inr (7, [.int 0, .int 0, .int 0, .int 0, .int 0, .null, .null, .null, .null, .null, .null, .null, .null, .null, .null, .null, .null, .null, .null, .null, .null, .null, .null, .null, .null, .null]))]) [30] rfl
  have hDc := hD.sub (ws' := [(r0, .inr (7, [.int 0, .int 0, .int 0, .int 0, .int 0, .null, .null, .null, .null, .null, .null, .null, .null, .null, .null, .null, .null, .null, .null, .null, .null, .null, .null, .null, .null, .null]))]) [30] (by decide) rfl
  have lq := P_lt hPT (N := 30) (q := q) rfl
  have nq : ∀ i, i < 30 → q i ≠ r0 := by
    intro i hi e
    obtain ⟨d31, -⟩ := D_dT hD (N := 31) (q := fun j => if j = 30 then r0 else q j) rfl
    have := d31 i 30 (by omega) (by omega) (by show (if i = 30 then r0 else q i) = (if 30 = 30 then r0 else q 30); rw [if_neg (by omega), if_pos rfl]; exact e)
    omega
  have hSc := hS
  have hFc := va_free (wc := [(r0, .inr (7, [.int 0, .int 0, .int 0, .int 0, .int 0, .null, .null, .null, .null, .null, .null, .null, .null, .null, .null, .null, .null, .null, .null, .null, .null, .null, .null, .null, .null, .null]))]) hDc hS hA [0] rfl
  refine W.widen (k := 31) (n := 3309) (by omega) (by omega) ?_
  refine lv_dup hx hb dL_law_11 rfl ?_
  refine va_callv (va_runI (As := []) (rest := [.ref r0]) ⟨hx, hb, hml, hown, hts⟩ (c_X7_init l dC dI cI cJ r0 H.size) (cwI 0 hts (gI co_X7_init) rfl rfl rfl (hts _ in_X7) (hts _ ml_L_12) (hts _ im_X7_init) rfl (by decide +kernel) ⟨Nat.le_of_ble_eq_true rfl, Nat.le_of_ble_eq_true rfl⟩) (nPre hK hPc hDc) rfl rfl hl.1 rfl (lv_room (Nat.le_of_ble_eq_true rfl)) dL_law_12 ⟨Nat.le_of_ble_eq_true rfl, Nat.le_of_ble_eq_true rfl⟩) hS (fun q _ h => hFc q h) hFc (fun r t H1 locs ht hvm hw hB hz1 hk1 hS => ?_)
  obtain ⟨hPM, hD2⟩ := hB
  rw [ht] at hPM
  have hw : r 0 = r0 := hw
  subst hw
  obtain ⟨dr, ar⟩ := D_dT hD2 (N := 22) (q := r) rfl
  have no : ∀ i, i < 30 → ¬ va_A [(r 0, .inr (7, [.int 0, .int 0, .int 0, .int 0, .int 0, .null, .null, .null, .null, .null, .null, .null, .null, .null, .null, .null, .null, .null, .null, .null, .null, .null, .null, .null, .null, .null]))] H.size (q i) := by
    intro i hi h
    rcases h with ⟨k, e, h⟩ | h
    · match k, h with
      | 0, h =>
        have h : (r 0, _) = (q i, e) := Option.some.inj h
        exact nq i hi (congrArg Prod.fst h).symm
      | k + 1, h => simp at h
    · exact absurd (lq i hi) (by omega)
  have F : LF s q r := ⟨dq, dr, fun i j hi hj e => no i hi (by rw [e]; exact ar j hj), gq, fun j hj => hFc _ (ar j hj)⟩
  have hPT : va_P (dC, dI) vwCl (wT cI cJ q s0C) H1 := by
    refine hPT.kept (fun k x hx => ?_)
    have h1 : ((wT cI cJ q s0C).map Prod.fst)[k]? = some x.1 := by rw [List.getElem?_map, hx]; rfl
    rw [show (wT cI cJ q s0C).map Prod.fst = (List.range 30).map q from rfl, List.getElem?_map] at h1
    by_cases hl : k < 30
    · rw [List.getElem?_range hl] at h1
      have e : q k = x.1 := Option.some.inj h1
      rw [← e]
      exact hk1 _ (lq k hl) (no k hl)
    · rw [List.getElem?_eq_none (by rw [List.length_range]; omega)] at h1
      cases h1
  refine W.widen (k := 600000) (n := 7302250) (Nat.le_of_ble_eq_true rfl) (Nat.le_of_ble_eq_true rfl) ?_
  refine lv_astore_n (lv' := [(2, .ref (r 0)), (1, .ref (q 0)), (0, .ref b)]) hx hb dL_law_15 rfl hl (by decide) rfl (fun ls hl => ?_)
  refine lv_iconst (v := 0) hx hb dL_law_16 (by decide) ?_
  refine lv_istore_n (lv' := [(3, .int 0), (2, .ref (r 0)), (1, .ref (q 0)), (0, .ref b)]) hx hb dL_law_17 rfl hl (by decide) rfl (fun ls hl => ?_)
  exact law_loop hL C0 hK F (L + 1) 0 s0C s0M H1 locs (by omega) (by omega) ⟨0, 0, 0, 0, R_0⟩ hPT hPM hS ls (lv_sub hl [3, 2, 1, 0] rfl)
