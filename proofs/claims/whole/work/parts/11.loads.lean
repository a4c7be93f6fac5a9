theorem nb_of {x : Int32} (h : x = 0 ∨ x = 1) : narrow .boolean (.int x) = .int x := by
  rcases h with rfl | rfl <;> rfl
theorem sz_lt {x : Int32} {N : Nat} (h : szI x N) (hN : N < 2 ^ 31) (c : ¬ nI N ≤ x) : vp_in x N := by
  obtain ⟨h1, h2⟩ := h
  rw [h1] at c ⊢
  refine vp_in_nI ?_ hN
  rcases Nat.lt_or_ge x.toNatClampNeg N with q | q
  · exact q
  · exact absurd (nI_le q (by omega)) c
theorem can_in {x z : Int32} (h : szI z 40) (h1 : ¬ x < 0) (h2 : ¬ z - 1 ≤ x) : vp_in x 40 := by
  obtain ⟨g1, g2⟩ := h
  obtain ⟨j, hj, rfl⟩ := nI_of h1
  rw [g1] at h2
  cases hz : z.toNatClampNeg with
  | zero =>
    rw [hz] at h2
    exact absurd (Int32.le_trans (show nI 0 - 1 ≤ 0 by decide) (nI_pos' hj)) h2
  | succ n =>
    rw [hz, nI_pred] at h2
    refine vp_in_nI ?_ (by decide)
    rcases Nat.lt_or_ge j n with q | q
    · omega
    · exact absurd (nI_le q hj) h2
theorem sz_lt2 {x : Int32} {N : Nat} (h : szI x N) (hN : N < 2 ^ 31) (c : x < nI N) : vp_in x N := sz_lt h hN (fun q => Int32.lt_irrefl (Int32.lt_of_lt_of_le c q))

set_option maxHeartbeats 4000000 in
set_option maxRecDepth 100000 in
theorem c_X2_open (l : Launch) (dC : Nat → ClassId) (dI : Nat → Nat → Nat) (cI cJ : ClassId) (q : Nat → Nat) (σ : St) : Met l yX2_open (.code yX2_open cX2_open 1 (some .int) :: tb) { frames := 0, cells := 0, slots := 0, locals := 0 } (Pu (dC, dI) (tyC cI cJ) (wT cI cJ q σ) [.ref (q 1)]) (vp_Si (fun r => r = (σ.2.1 4) - 1)) 0 0 (fun _ => False) := by
  refine Met.ofW (cc := cX2_open) (maxL := 1) (ret := (some .int)) (by decide) rfl ?_
  intro p e s m args below meth c s₁ B hml hv
  obtain ⟨rfl, hP, hK⟩ := hv
  have hx := B.exec
  have hb := B.bytes
  have hr := B.returns
  have hts0 := atoms_spec (ws := .code yX2_open cX2_open 1 (some .int) :: tb) B.pre
  have hts : ∀ w ∈ tb, w.before _ s = true := fun w hw => hts0 w (List.mem_cons_of_mem _ hw)
  have hown : s.vm.findClass RX2 = some m.cls := findClass_of_methodNamed B.named
  have hlocks := B.notSynchronized
  have hl := lv_entry ([.ref (q 1)]) (n := 1) (Nat.le_of_ble_eq_true rfl)
  rw [lg_entry_eq]
  generalize (lg_sl ([.ref (q 1)]) ++ List.replicate (1 - (lg_sl ([.ref (q 1)])).length) Slot.unset).toArray = ls at hl ⊢
  have hl : lv_has ls 1 [(0, .ref (q 1))] := hl
  refine lv_aload_n hx hb dX2_open_0 rfl (lv_at hl 0 rfl) ?_
  refine va_get (D := (dC, dI)) (ci := 2) (v := .int (σ.2.1 4)) (C := RX2) (T := TX2) (N := 3) hx hb hts inX2 hown hK hP 1 rfl rfl 1 (by decide) (hts _ fl_X2_15) (fun _ h9 => h9) rfl dX2_open_1 ?_
  refine lv_iconst (v := 1) hx hb dX2_open_4 (by decide) ?_
  refine lv_isub hx hb dX2_open_5 ?_
  exact W.iret (v := (σ.2.1 4) - 1) hx hb hr (fun t ht hW => ⟨_, rfl, rfl, ht⟩) (fun _ h => absurd h List.not_mem_nil) dX2_open_6

def fX2_openNext (σ : St) : Int32 × St :=
  (if (σ.2.1 4) < 40 then (((σ.2.1 4) + 1) - 1, (sV (sI σ 20 ((σ.2.1 4).toNatClampNeg) 2001) 4 ((σ.2.1 4) + 1))) else ((-1), σ))
set_option maxHeartbeats 4000000 in
set_option maxRecDepth 100000 in
theorem c_X2_openNext (l : Launch) (dC : Nat → ClassId) (dI : Nat → Nat → Nat) (cI cJ : ClassId) (q : Nat → Nat) (σ : St) (hd : dT 30 q) (hI : IB σ) : Met l yX2_openNext (.code yX2_openNext cX2_openNext 1 (some .int) :: tb) { frames := 1, cells := 0, slots := 0, locals := 20 } (Pu (dC, dI) (tyC cI cJ) (wT cI cJ q σ) [.ref (q 1)]) (xw_Q (some (.int (fX2_openNext σ).1)) (dC, dI) (wT cI cJ q (fX2_openNext σ).2) (aT 30 q)) 0 0 (aT 30 q) := by
  refine Met.ofW (cc := cX2_openNext) (maxL := 1) (ret := (some .int)) (by decide) rfl ?_
  intro p e s m args below meth c s₁ B hml hv
  obtain ⟨rfl, hP, hK⟩ := hv
  have hx := B.exec
  have hb := B.bytes
  have hr := B.returns
  have hts0 := atoms_spec (ws := .code yX2_openNext cX2_openNext 1 (some .int) :: tb) B.pre
  have hts : ∀ w ∈ tb, w.before _ s = true := fun w hw => hts0 w (List.mem_cons_of_mem _ hw)
  have hown : s.vm.findClass RX2 = some m.cls := findClass_of_methodNamed B.named
  have hlocks := B.notSynchronized
  have hl := lv_entry ([.ref (q 1)]) (n := 1) (Nat.le_of_ble_eq_true rfl)
  rw [lg_entry_eq]
  generalize (lg_sl ([.ref (q 1)]) ++ List.replicate (1 - (lg_sl ([.ref (q 1)])).length) Slot.unset).toArray = ls at hl ⊢
  have hl : lv_has ls 1 [(0, .ref (q 1))] := hl
  obtain ⟨H, hHe⟩ : ∃ H, s.heap = H := ⟨_, rfl⟩
  rw [hHe] at hP ⊢
  obtain ⟨locs, hLe⟩ : ∃ x : List Loc, ([] : List Loc) = x := ⟨_, rfl⟩
  rw [hLe]
  have hS : va_S (aT 30 q) s.heap H locs := by rw [← hHe, ← hLe]; exact va_S.rf
  refine lv_aload_n hx hb dX2_openNext_0 rfl (lv_at hl 0 rfl) ?_
  refine va_get (D := (dC, dI)) (ci := 2) (v := .int (σ.2.1 4)) (C := RX2) (T := TX2) (N := 3) hx hb hts inX2 hown hK hP 1 rfl rfl 1 (by decide) (hts _ fl_X2_15) (fun _ h9 => h9) rfl dX2_openNext_1 ?_
  refine lv_bipush (v := 40) hx hb dX2_openNext_4 (by decide) ?_
  refine lv_icmp_lt (tgt := 11) hx hb dX2_openNext_6 (by decide) (fun c_6 => ?_) (fun c_6 => ?_)
  · refine lv_aload_n hx hb dX2_openNext_11 rfl (lv_at hl 0 rfl) ?_
    refine va_get (D := (dC, dI)) (ci := 2) (v := .ref (q 2)) (C := RX2) (T := TX2) (N := 3) hx hb hts inX2 hown hK hP 1 rfl rfl 0 (by decide) (hts _ fl_X2_9) (fun _ h9 => h9) rfl dX2_openNext_12 ?_
    refine lv_aload_n hx hb dX2_openNext_15 rfl (lv_at hl 0 rfl) ?_
    refine va_get (D := (dC, dI)) (ci := 2) (v := .int (σ.2.1 4)) (C := RX2) (T := TX2) (N := 3) hx hb hts inX2 hown hK hP 1 rfl rfl 1 (by decide) (hts _ fl_X2_15) (fun _ h9 => h9) rfl dX2_openNext_16 ?_
    refine lv_sipush (v := 2001) hx hb dX2_openNext_19 (by decide) ?_
    refine va_iast hx hb hK hP (wT_D hd) hS 2 0 rfl rfl (sz_lt2 hI.2.2.2.1 (by decide) c_6) dX2_openNext_22 (fun H locs hP _ hS => ?_)
    have hP : va_P (dC, dI) vwCl (wT cI cJ q (sI σ 20 ((σ.2.1 4).toNatClampNeg) 2001)) H := hP
    refine lv_aload_n hx hb dX2_openNext_23 rfl (lv_at hl 0 rfl) ?_
    refine lv_dup hx hb dX2_openNext_24 rfl ?_
    refine va_get (D := (dC, dI)) (ci := 2) (v := .int (σ.2.1 4)) (C := RX2) (T := TX2) (N := 3) hx hb hts inX2 hown hK hP 1 rfl rfl 1 (by decide) (hts _ fl_X2_15) (fun _ h9 => h9) rfl dX2_openNext_25 ?_
    refine lv_iconst (v := 1) hx hb dX2_openNext_28 (by decide) ?_
    refine lv_iadd hx hb dX2_openNext_29 ?_
    refine va_put (D := (dC, dI)) (ci := 2) (v := .int ((σ.2.1 4) + 1)) (ty := .int) (C := RX2) (T := TX2) (N := 3) hx hb hts inX2 tyX2 tyX2_ok nmX2 hown hK hP (wT_D hd) hS 1 rfl rfl 1 (by decide) (hts _ fl_X2_15) (fun _ h9 => h9) rfl (by decide +kernel) rfl rfl (Nat.le_of_ble_eq_true rfl) dX2_openNext_30 (fun H locs hP _ hS => ?_)
    have hP : va_P (dC, dI) vwCl (wT cI cJ q (sV (sI σ 20 ((σ.2.1 4).toNatClampNeg) 2001) 4 ((σ.2.1 4) + 1))) H := hP
    refine lv_aload_n hx hb dX2_openNext_33 rfl (lv_at hl 0 rfl) ?_
    refine xc_i (va_runV (As := []) (rest := []) ⟨hx, hb, hml, hown, hts⟩ (c_X2_open l dC dI cI cJ q (sV (sI σ 20 ((σ.2.1 4).toNatClampNeg) 2001) 4 ((σ.2.1 4) + 1)) ) (cwV 0 hts (gV ml_X2_22 im_X2_open se_X2_open in_X2 co_X2_open) rfl rfl rfl (by decide +kernel) ⟨Nat.le_of_ble_eq_true rfl, Nat.le_of_ble_eq_true rfl⟩) (preV hK hP (pos := 1) (ci := 2) rfl rfl) rfl rfl hl.1 rfl (lv_room (Nat.le_of_ble_eq_true rfl)) dX2_openNext_34 ⟨Nat.zero_le _, Nat.zero_le _⟩) ?_
    have hF : fX2_openNext σ = (((σ.2.1 4) + 1) - 1, (sV (sI σ 20 ((σ.2.1 4).toNatClampNeg) 2001) 4 ((σ.2.1 4) + 1))) := by rw [fX2_openNext, if_pos c_6]
    have hP9 : va_P (dC, dI) vwCl (wT cI cJ q (fX2_openNext σ).2) H := by rw [hF]; exact hP
    exact W.iret (v := ((σ.2.1 4) + 1) - 1) hx hb hr (fun t ht hW => ⟨(by rw [hF]), by rw [ht]; exact hP9, hS.F ht⟩) hS.2.2 dX2_openNext_37
  · refine lv_iconst (v := (-1)) hx hb dX2_openNext_9 (by decide) ?_
    have hF : fX2_openNext σ = ((-1), σ) := by rw [fX2_openNext, if_neg c_6]
    have hP9 : va_P (dC, dI) vwCl (wT cI cJ q (fX2_openNext σ).2) H := by rw [hF]; exact hP
    exact W.iret (v := (-1)) hx hb hr (fun t ht hW => ⟨(by rw [hF]), by rw [ht]; exact hP9, hS.F ht⟩) hS.2.2 dX2_openNext_10

def fX2_canBeUndone (σ : St) (p1 : Int32) : Int32 :=
  (if p1 < 0 then 0 else (if ((σ.2.1 4) - 1) ≤ p1 then 0 else (if (σ.1 20 p1.toNatClampNeg) = 2001 then 1 else 0)))
set_option maxHeartbeats 4000000 in
set_option maxRecDepth 100000 in
theorem c_X2_canBeUndone (l : Launch) (dC : Nat → ClassId) (dI : Nat → Nat → Nat) (cI cJ : ClassId) (q : Nat → Nat) (σ : St) (p1 : Int32) (hI : IB σ) : Met l yX2_canBeUndone (.code yX2_canBeUndone cX2_canBeUndone 2 (some .boolean) :: tb) { frames := 1, cells := 0, slots := 0, locals := 20 } (Pu (dC, dI) (tyC cI cJ) (wT cI cJ q σ) [.ref (q 1), .int p1]) (vp_Si (fun r => r = fX2_canBeUndone σ p1)) 0 0 (fun _ => False) := by
  refine Met.ofW (cc := cX2_canBeUndone) (maxL := 2) (ret := (some .boolean)) (by decide) rfl ?_
  intro p e s m args below meth c s₁ B hml hv
  obtain ⟨rfl, hP, hK⟩ := hv
  have hx := B.exec
  have hb := B.bytes
  have hr := B.returns
  have hts0 := atoms_spec (ws := .code yX2_canBeUndone cX2_canBeUndone 2 (some .boolean) :: tb) B.pre
  have hts : ∀ w ∈ tb, w.before _ s = true := fun w hw => hts0 w (List.mem_cons_of_mem _ hw)
  have hown : s.vm.findClass RX2 = some m.cls := findClass_of_methodNamed B.named
  have hlocks := B.notSynchronized
  have hl := lv_entry ([.ref (q 1), .int p1]) (n := 2) (Nat.le_of_ble_eq_true rfl)
  rw [lg_entry_eq]
  generalize (lg_sl ([.ref (q 1), .int p1]) ++ List.replicate (2 - (lg_sl ([.ref (q 1), .int p1])).length) Slot.unset).toArray = ls at hl ⊢
  have hl : lv_has ls 2 [(0, .ref (q 1)), (1, .int p1)] := hl
  refine lv_iload_n hx hb dX2_canBeUndone_0 rfl (lv_at hl 1 rfl) ?_
  refine lv_if_lt (tgt := 28) hx hb dX2_canBeUndone_1 (by decide) (fun c_1 => ?_) (fun c_1 => ?_)
  · refine lv_iconst (v := 0) hx hb dX2_canBeUndone_28 (by decide) ?_
    exact W.zret (v := 0) hx hb hr narrow_b0 (fun t ht hW => ⟨_, rfl, (by rw [fX2_canBeUndone, if_pos c_1]), ht⟩) (fun _ h => absurd h List.not_mem_nil) dX2_canBeUndone_29
  · refine lv_iload_n hx hb dX2_canBeUndone_4 rfl (lv_at hl 1 rfl) ?_
    refine lv_aload_n hx hb dX2_canBeUndone_5 rfl (lv_at hl 0 rfl) ?_
    refine xc_i (va_runV (As := []) (rest := [.int p1]) ⟨hx, hb, hml, hown, hts⟩ (c_X2_open l dC dI cI cJ q σ ) (cwV 0 hts (gV ml_X2_22 im_X2_open se_X2_open in_X2 co_X2_open) rfl rfl rfl (by decide +kernel) ⟨Nat.le_of_ble_eq_true rfl, Nat.le_of_ble_eq_true rfl⟩) (preV hK hP (pos := 1) (ci := 2) rfl rfl) rfl rfl hl.1 rfl (lv_room (Nat.le_of_ble_eq_true rfl)) dX2_canBeUndone_6 ⟨Nat.zero_le _, Nat.zero_le _⟩) ?_
    refine lv_icmp_ge (tgt := 28) hx hb dX2_canBeUndone_9 (by decide) (fun c_9 => ?_) (fun c_9 => ?_)
    · refine lv_iconst (v := 0) hx hb dX2_canBeUndone_28 (by decide) ?_
      exact W.zret (v := 0) hx hb hr narrow_b0 (fun t ht hW => ⟨_, rfl, (by rw [fX2_canBeUndone, if_neg c_1, if_pos c_9]), ht⟩) (fun _ h => absurd h List.not_mem_nil) dX2_canBeUndone_29
    · refine lv_aload_n hx hb dX2_canBeUndone_12 rfl (lv_at hl 0 rfl) ?_
      refine va_get (D := (dC, dI)) (ci := 2) (v := .ref (q 2)) (C := RX2) (T := TX2) (N := 3) hx hb hts inX2 hown hK hP 1 rfl rfl 0 (by decide) (hts _ fl_X2_9) (fun _ h9 => h9) rfl dX2_canBeUndone_13 ?_
      refine lv_iload_n hx hb dX2_canBeUndone_16 rfl (lv_at hl 1 rfl) ?_
      refine va_iald hx hb hK hP 2 0 rfl rfl (can_in hI.2.2.2.1 c_1 c_9) dX2_canBeUndone_17 ?_
      refine lv_sipush (v := 2001) hx hb dX2_canBeUndone_18 (by decide) ?_
      refine lv_icmp_ne (tgt := 28) hx hb dX2_canBeUndone_21 (by decide) (fun c_21 => ?_) (fun c_21 => ?_)
      · refine lv_iconst (v := 0) hx hb dX2_canBeUndone_28 (by decide) ?_
        exact W.zret (v := 0) hx hb hr narrow_b0 (fun t ht hW => ⟨_, rfl, (by rw [fX2_canBeUndone, if_neg c_1, if_neg c_9, if_neg c_21]), ht⟩) (fun _ h => absurd h List.not_mem_nil) dX2_canBeUndone_29
      · refine lv_iconst (v := 1) hx hb dX2_canBeUndone_24 (by decide) ?_
        refine lv_goto (tgt := 29) hx hb dX2_canBeUndone_25 (by decide) ?_
        exact W.zret (v := 1) hx hb hr narrow_b1 (fun t ht hW => ⟨_, rfl, (by rw [fX2_canBeUndone, if_neg c_1, if_neg c_9, if_pos c_21]), ht⟩) (fun _ h => absurd h List.not_mem_nil) dX2_canBeUndone_29

def fX2_setUndone (σ : St) (p1 : Int32) (p2 : Int32) : St :=
  (sV (sI σ 20 p1.toNatClampNeg p2) 5 ((σ.2.1 5) + 1))
set_option maxHeartbeats 4000000 in
set_option maxRecDepth 100000 in
theorem c_X2_setUndone (l : Launch) (dC : Nat → ClassId) (dI : Nat → Nat → Nat) (cI cJ : ClassId) (q : Nat → Nat) (σ : St) (p1 : Int32) (p2 : Int32) (hd : dT 30 q) (hL : vp_in p1 40) : Met l yX2_setUndone (.code yX2_setUndone cX2_setUndone 3 none :: tb) { frames := 0, cells := 0, slots := 0, locals := 0 } (Pu (dC, dI) (tyC cI cJ) (wT cI cJ q σ) [.ref (q 1), .int p1, .int p2]) (xw_Q none (dC, dI) (wT cI cJ q (fX2_setUndone σ p1 p2)) (aT 30 q)) 0 0 (aT 30 q) := by
  refine Met.ofW (cc := cX2_setUndone) (maxL := 3) (ret := none) (by decide) rfl ?_
  intro p e s m args below meth c s₁ B hml hv
  obtain ⟨rfl, hP, hK⟩ := hv
  have hx := B.exec
  have hb := B.bytes
  have hr := B.returns
  have hts0 := atoms_spec (ws := .code yX2_setUndone cX2_setUndone 3 none :: tb) B.pre
  have hts : ∀ w ∈ tb, w.before _ s = true := fun w hw => hts0 w (List.mem_cons_of_mem _ hw)
  have hown : s.vm.findClass RX2 = some m.cls := findClass_of_methodNamed B.named
  have hlocks := B.notSynchronized
  have hl := lv_entry ([.ref (q 1), .int p1, .int p2]) (n := 3) (Nat.le_of_ble_eq_true rfl)
  rw [lg_entry_eq]
  generalize (lg_sl ([.ref (q 1), .int p1, .int p2]) ++ List.replicate (3 - (lg_sl ([.ref (q 1), .int p1, .int p2])).length) Slot.unset).toArray = ls at hl ⊢
  have hl : lv_has ls 3 [(0, .ref (q 1)), (1, .int p1), (2, .int p2)] := hl
  obtain ⟨H, hHe⟩ : ∃ H, s.heap = H := ⟨_, rfl⟩
  rw [hHe] at hP ⊢
  obtain ⟨locs, hLe⟩ : ∃ x : List Loc, ([] : List Loc) = x := ⟨_, rfl⟩
  rw [hLe]
  have hS : va_S (aT 30 q) s.heap H locs := by rw [← hHe, ← hLe]; exact va_S.rf
  refine lv_aload_n hx hb dX2_setUndone_0 rfl (lv_at hl 0 rfl) ?_
  refine va_get (D := (dC, dI)) (ci := 2) (v := .ref (q 2)) (C := RX2) (T := TX2) (N := 3) hx hb hts inX2 hown hK hP 1 rfl rfl 0 (by decide) (hts _ fl_X2_9) (fun _ h9 => h9) rfl dX2_setUndone_1 ?_
  refine lv_iload_n hx hb dX2_setUndone_4 rfl (lv_at hl 1 rfl) ?_
  refine lv_iload_n hx hb dX2_setUndone_5 rfl (lv_at hl 2 rfl) ?_
  refine va_iast hx hb hK hP (wT_D hd) hS 2 0 rfl rfl (by assumption) dX2_setUndone_6 (fun H locs hP _ hS => ?_)
  have hP : va_P (dC, dI) vwCl (wT cI cJ q (sI σ 20 p1.toNatClampNeg p2)) H := hP
  refine lv_aload_n hx hb dX2_setUndone_7 rfl (lv_at hl 0 rfl) ?_
  refine lv_dup hx hb dX2_setUndone_8 rfl ?_
  refine va_get (D := (dC, dI)) (ci := 2) (v := .int (σ.2.1 5)) (C := RX2) (T := TX2) (N := 3) hx hb hts inX2 hown hK hP 1 rfl rfl 2 (by decide) (hts _ fl_X2_19) (fun _ h9 => h9) rfl dX2_setUndone_9 ?_
  refine lv_iconst (v := 1) hx hb dX2_setUndone_12 (by decide) ?_
  refine lv_iadd hx hb dX2_setUndone_13 ?_
  refine va_put (D := (dC, dI)) (ci := 2) (v := .int ((σ.2.1 5) + 1)) (ty := .int) (C := RX2) (T := TX2) (N := 3) hx hb hts inX2 tyX2 tyX2_ok nmX2 hown hK hP (wT_D hd) hS 1 rfl rfl 2 (by decide) (hts _ fl_X2_19) (fun _ h9 => h9) rfl (by decide +kernel) rfl rfl (Nat.le_of_ble_eq_true rfl) dX2_setUndone_14 (fun H locs hP _ hS => ?_)
  have hP : va_P (dC, dI) vwCl (wT cI cJ q (sV (sI σ 20 p1.toNatClampNeg p2) 5 ((σ.2.1 5) + 1))) H := hP
  have hF : fX2_setUndone σ p1 p2 = (sV (sI σ 20 p1.toNatClampNeg p2) 5 ((σ.2.1 5) + 1)) := by rw [fX2_setUndone]
  have hP9 : va_P (dC, dI) vwCl (wT cI cJ q (fX2_setUndone σ p1 p2)) H := by rw [hF]; exact hP
  exact W.vret hx hb hr (fun t ht hW => ⟨rfl, by rw [ht]; exact hP9, hS.F ht⟩) hS.2.2 dX2_setUndone_17

def fX2_isUndone (σ : St) (p1 : Int32) (p2 : Int32) : Int32 :=
  (if p2 < (σ.1 20 p1.toNatClampNeg) then 0 else 1)
set_option maxHeartbeats 4000000 in
set_option maxRecDepth 100000 in
theorem c_X2_isUndone (l : Launch) (dC : Nat → ClassId) (dI : Nat → Nat → Nat) (cI cJ : ClassId) (q : Nat → Nat) (σ : St) (p1 : Int32) (p2 : Int32) (hL : vp_in p1 40) : Met l yX2_isUndone (.code yX2_isUndone cX2_isUndone 3 (some .boolean) :: tb) { frames := 0, cells := 0, slots := 0, locals := 0 } (Pu (dC, dI) (tyC cI cJ) (wT cI cJ q σ) [.ref (q 1), .int p1, .int p2]) (vp_Si (fun r => r = fX2_isUndone σ p1 p2)) 0 0 (fun _ => False) := by
  refine Met.ofW (cc := cX2_isUndone) (maxL := 3) (ret := (some .boolean)) (by decide) rfl ?_
  intro p e s m args below meth c s₁ B hml hv
  obtain ⟨rfl, hP, hK⟩ := hv
  have hx := B.exec
  have hb := B.bytes
  have hr := B.returns
  have hts0 := atoms_spec (ws := .code yX2_isUndone cX2_isUndone 3 (some .boolean) :: tb) B.pre
  have hts : ∀ w ∈ tb, w.before _ s = true := fun w hw => hts0 w (List.mem_cons_of_mem _ hw)
  have hown : s.vm.findClass RX2 = some m.cls := findClass_of_methodNamed B.named
  have hlocks := B.notSynchronized
  have hl := lv_entry ([.ref (q 1), .int p1, .int p2]) (n := 3) (Nat.le_of_ble_eq_true rfl)
  rw [lg_entry_eq]
  generalize (lg_sl ([.ref (q 1), .int p1, .int p2]) ++ List.replicate (3 - (lg_sl ([.ref (q 1), .int p1, .int p2])).length) Slot.unset).toArray = ls at hl ⊢
  have hl : lv_has ls 3 [(0, .ref (q 1)), (1, .int p1), (2, .int p2)] := hl
  refine lv_aload_n hx hb dX2_isUndone_0 rfl (lv_at hl 0 rfl) ?_
  refine va_get (D := (dC, dI)) (ci := 2) (v := .ref (q 2)) (C := RX2) (T := TX2) (N := 3) hx hb hts inX2 hown hK hP 1 rfl rfl 0 (by decide) (hts _ fl_X2_9) (fun _ h9 => h9) rfl dX2_isUndone_1 ?_
  refine lv_iload_n hx hb dX2_isUndone_4 rfl (lv_at hl 1 rfl) ?_
  refine va_iald hx hb hK hP 2 0 rfl rfl (by assumption) dX2_isUndone_5 ?_
  refine lv_iload_n hx hb dX2_isUndone_6 rfl (lv_at hl 2 rfl) ?_
  refine lv_icmp_gt (tgt := 14) hx hb dX2_isUndone_7 (by decide) (fun c_7 => ?_) (fun c_7 => ?_)
  · refine lv_iconst (v := 0) hx hb dX2_isUndone_14 (by decide) ?_
    exact W.zret (v := 0) hx hb hr narrow_b0 (fun t ht hW => ⟨_, rfl, (by rw [fX2_isUndone, if_pos c_7]), ht⟩) (fun _ h => absurd h List.not_mem_nil) dX2_isUndone_15
  · refine lv_iconst (v := 1) hx hb dX2_isUndone_10 (by decide) ?_
    refine lv_goto (tgt := 15) hx hb dX2_isUndone_11 (by decide) ?_
    exact W.zret (v := 1) hx hb hr narrow_b1 (fun t ht hW => ⟨_, rfl, (by rw [fX2_isUndone, if_neg c_7]), ht⟩) (fun _ h => absurd h List.not_mem_nil) dX2_isUndone_15

set_option maxHeartbeats 4000000 in
set_option maxRecDepth 100000 in
theorem c_X2_undoneCount (l : Launch) (dC : Nat → ClassId) (dI : Nat → Nat → Nat) (cI cJ : ClassId) (q : Nat → Nat) (σ : St) : Met l yX2_undoneCount (.code yX2_undoneCount cX2_undoneCount 1 (some .int) :: tb) { frames := 0, cells := 0, slots := 0, locals := 0 } (Pu (dC, dI) (tyC cI cJ) (wT cI cJ q σ) [.ref (q 1)]) (vp_Si (fun r => r = σ.2.1 5)) 0 0 (fun _ => False) := by
  refine Met.ofW (cc := cX2_undoneCount) (maxL := 1) (ret := (some .int)) (by decide) rfl ?_
  intro p e s m args below meth c s₁ B hml hv
  obtain ⟨rfl, hP, hK⟩ := hv
  have hx := B.exec
  have hb := B.bytes
  have hr := B.returns
  have hts0 := atoms_spec (ws := .code yX2_undoneCount cX2_undoneCount 1 (some .int) :: tb) B.pre
  have hts : ∀ w ∈ tb, w.before _ s = true := fun w hw => hts0 w (List.mem_cons_of_mem _ hw)
  have hown : s.vm.findClass RX2 = some m.cls := findClass_of_methodNamed B.named
  have hlocks := B.notSynchronized
  have hl := lv_entry ([.ref (q 1)]) (n := 1) (Nat.le_of_ble_eq_true rfl)
  rw [lg_entry_eq]
  generalize (lg_sl ([.ref (q 1)]) ++ List.replicate (1 - (lg_sl ([.ref (q 1)])).length) Slot.unset).toArray = ls at hl ⊢
  have hl : lv_has ls 1 [(0, .ref (q 1))] := hl
  refine lv_aload_n hx hb dX2_undoneCount_0 rfl (lv_at hl 0 rfl) ?_
  refine va_get (D := (dC, dI)) (ci := 2) (v := .int (σ.2.1 5)) (C := RX2) (T := TX2) (N := 3) hx hb hts inX2 hown hK hP 1 rfl rfl 2 (by decide) (hts _ fl_X2_19) (fun _ h9 => h9) rfl dX2_undoneCount_1 ?_
  exact W.iret (v := σ.2.1 5) hx hb hr (fun t ht hW => ⟨_, rfl, rfl, ht⟩) (fun _ h => absurd h List.not_mem_nil) dX2_undoneCount_4
