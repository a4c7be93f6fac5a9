theorem room_in {z : Int32} (h : szI z 40) (c : 1 ≤ 40 - z) : vp_in z 40 := by
  obtain ⟨h1, h2⟩ := h
  rw [h1] at c ⊢
  refine vp_in_nI ?_ (by decide)
  rcases Nat.lt_or_ge z.toNatClampNeg 40 with q | q
  · exact q
  · have : z.toNatClampNeg = 40 := by omega
    rw [this] at c
    exact absurd c (by decide)
theorem ge1_ne {x : Int32} (c : 1 ≤ x) : ¬ x = 0 := by
  intro h
  rw [h] at c
  exact absurd c (by decide)
theorem IB_congr {σ σ' : St} (h1 : σ'.1 = σ.1) (h2 : σ'.2.1 = σ.2.1) (h : IB σ) : IB σ' := by
  unfold IB at h ⊢
  rw [h1, h2]
  exact h

set_option maxHeartbeats 4000000 in
set_option maxRecDepth 100000 in
theorem c_X3_size_T (l : Launch) (dC : Nat → ClassId) (dI : Nat → Nat → Nat) (cI cJ : ClassId) (q : Nat → Nat) (σ : St) : Met l yX3_size (.code yX3_size cX3_size 1 (some .int) :: tb) { frames := 0, cells := 0, slots := 0, locals := 0 } (Pu (dC, dI) (tyC cI cJ) (wT cI cJ q σ) [.ref (q 14)]) (vp_Si (fun r => r = σ.2.1 3)) 0 0 (fun _ => False) := by
  refine Met.ofW (cc := cX3_size) (maxL := 1) (ret := (some .int)) (by decide) rfl ?_
  intro p e s m args below meth c s₁ B hml hv
  obtain ⟨rfl, hP, hK⟩ := hv
  have hx := B.exec
  have hb := B.bytes
  have hr := B.returns
  have hts0 := atoms_spec (ws := .code yX3_size cX3_size 1 (some .int) :: tb) B.pre
  have hts : ∀ w ∈ tb, w.before _ s = true := fun w hw => hts0 w (List.mem_cons_of_mem _ hw)
  have hown : s.vm.findClass RX3 = some m.cls := findClass_of_methodNamed B.named
  have hlocks := B.notSynchronized
  have hl := lv_entry ([.ref (q 14)]) (n := 1) (Nat.le_of_ble_eq_true rfl)
  rw [lg_entry_eq]
  generalize (lg_sl ([.ref (q 14)]) ++ List.replicate (1 - (lg_sl ([.ref (q 14)])).length) Slot.unset).toArray = ls at hl ⊢
  have hl : lv_has ls 1 [(0, .ref (q 14))] := hl
  refine lv_aload_n hx hb dX3_size_0 rfl (lv_at hl 0 rfl) ?_
  refine va_get (D := (dC, dI)) (ci := 3) (v := .int (σ.2.1 3)) (C := RX3) (T := TX3) (N := 5) hx hb hts inX3 hown hK hP 14 rfl rfl 4 (by decide) (hts _ fl_X3_32) (fun _ h9 => h9) rfl dX3_size_1 ?_
  exact W.iret (v := σ.2.1 3) hx hb hr (fun t ht hW => ⟨_, rfl, rfl, ht⟩) (fun _ h => absurd h List.not_mem_nil) dX3_size_4

def fX3_isFull_T (σ : St) : Int32 :=
  (if (σ.2.1 3) < 300 then 0 else 1)
set_option maxHeartbeats 4000000 in
set_option maxRecDepth 100000 in
theorem c_X3_isFull_T (l : Launch) (dC : Nat → ClassId) (dI : Nat → Nat → Nat) (cI cJ : ClassId) (q : Nat → Nat) (σ : St) : Met l yX3_isFull (.code yX3_isFull cX3_isFull 1 (some .boolean) :: tb) { frames := 0, cells := 0, slots := 0, locals := 0 } (Pu (dC, dI) (tyC cI cJ) (wT cI cJ q σ) [.ref (q 14)]) (vp_Si (fun r => r = fX3_isFull_T σ)) 0 0 (fun _ => False) := by
  refine Met.ofW (cc := cX3_isFull) (maxL := 1) (ret := (some .boolean)) (by decide) rfl ?_
  intro p e s m args below meth c s₁ B hml hv
  obtain ⟨rfl, hP, hK⟩ := hv
  have hx := B.exec
  have hb := B.bytes
  have hr := B.returns
  have hts0 := atoms_spec (ws := .code yX3_isFull cX3_isFull 1 (some .boolean) :: tb) B.pre
  have hts : ∀ w ∈ tb, w.before _ s = true := fun w hw => hts0 w (List.mem_cons_of_mem _ hw)
  have hown : s.vm.findClass RX3 = some m.cls := findClass_of_methodNamed B.named
  have hlocks := B.notSynchronized
  have hl := lv_entry ([.ref (q 14)]) (n := 1) (Nat.le_of_ble_eq_true rfl)
  rw [lg_entry_eq]
  generalize (lg_sl ([.ref (q 14)]) ++ List.replicate (1 - (lg_sl ([.ref (q 14)])).length) Slot.unset).toArray = ls at hl ⊢
  have hl : lv_has ls 1 [(0, .ref (q 14))] := hl
  refine lv_aload_n hx hb dX3_isFull_0 rfl (lv_at hl 0 rfl) ?_
  refine va_get (D := (dC, dI)) (ci := 3) (v := .int (σ.2.1 3)) (C := RX3) (T := TX3) (N := 5) hx hb hts inX3 hown hK hP 14 rfl rfl 4 (by decide) (hts _ fl_X3_32) (fun _ h9 => h9) rfl dX3_isFull_1 ?_
  refine lv_aload_n hx hb dX3_isFull_4 rfl (lv_at hl 0 rfl) ?_
  refine va_get (D := (dC, dI)) (ci := 3) (v := .int 300) (C := RX3) (T := TX3) (N := 5) hx hb hts inX3 hown hK hP 14 rfl rfl 3 (by decide) (hts _ fl_X3_21) (fun _ h9 => h9) rfl dX3_isFull_5 ?_
  refine lv_icmp_lt (tgt := 15) hx hb dX3_isFull_8 (by decide) (fun c_8 => ?_) (fun c_8 => ?_)
  · refine lv_iconst (v := 0) hx hb dX3_isFull_15 (by decide) ?_
    exact W.zret (v := 0) hx hb hr narrow_b0 (fun t ht hW => ⟨_, rfl, (by rw [fX3_isFull_T, if_pos c_8]), ht⟩) (fun _ h => absurd h List.not_mem_nil) dX3_isFull_16
  · refine lv_iconst (v := 1) hx hb dX3_isFull_11 (by decide) ?_
    refine lv_goto (tgt := 16) hx hb dX3_isFull_12 (by decide) ?_
    exact W.zret (v := 1) hx hb hr narrow_b1 (fun t ht hW => ⟨_, rfl, (by rw [fX3_isFull_T, if_neg c_8]), ht⟩) (fun _ h => absurd h List.not_mem_nil) dX3_isFull_16

theorem b_X3_isFull_T (σ : St) : fX3_isFull_T σ = 0 ∨ fX3_isFull_T σ = 1 := by
  unfold fX3_isFull_T
  repeat' split
  all_goals first | exact Or.inl rfl | exact Or.inr rfl

theorem full_in_T {σ : St} (hI : IB σ) (c : fX3_isFull_T σ = 0) : vp_in (σ.2.1 3) 300 := by
  unfold fX3_isFull_T at c
  split at c
  · exact sz_lt2 hI.2.2.1 (by decide) (by assumption)
  · exact absurd c (by decide)

def fX3_add_T (σ : St) (p1 : Int32) : Int32 × St :=
  (if (fX3_isFull_T σ) = 0 then (((σ.2.1 3) + 1) - 1, (sV (sI (sI σ 13 ((σ.2.1 3).toNatClampNeg) p1) 14 ((σ.2.1 3).toNatClampNeg) ((σ.2.1 4) - 1)) 3 ((σ.2.1 3) + 1))) else ((-1), σ))
set_option maxHeartbeats 4000000 in
set_option maxRecDepth 100000 in
theorem c_X3_add_T (l : Launch) (dC : Nat → ClassId) (dI : Nat → Nat → Nat) (cI cJ : ClassId) (q : Nat → Nat) (σ : St) (p1 : Int32) (hd : dT 30 q) (hI : IB σ) : Met l yX3_add (.code yX3_add cX3_add 2 (some .int) :: tb) { frames := 1, cells := 0, slots := 0, locals := 20 } (Pu (dC, dI) (tyC cI cJ) (wT cI cJ q σ) [.ref (q 14), .int p1]) (xw_Q (some (.int (fX3_add_T σ p1).1)) (dC, dI) (wT cI cJ q (fX3_add_T σ p1).2) (aT 30 q)) 0 0 (aT 30 q) := by
  refine Met.ofW (cc := cX3_add) (maxL := 2) (ret := (some .int)) (by decide) rfl ?_
  intro p e s m args below meth c s₁ B hml hv
  obtain ⟨rfl, hP, hK⟩ := hv
  have hx := B.exec
  have hb := B.bytes
  have hr := B.returns
  have hts0 := atoms_spec (ws := .code yX3_add cX3_add 2 (some .int) :: tb) B.pre
  have hts : ∀ w ∈ tb, w.before _ s = true := fun w hw => hts0 w (List.mem_cons_of_mem _ hw)
  have hown : s.vm.findClass RX3 = some m.cls := findClass_of_methodNamed B.named
  have hlocks := B.notSynchronized
  have hl := lv_entry ([.ref (q 14), .int p1]) (n := 2) (Nat.le_of_ble_eq_true rfl)
  rw [lg_entry_eq]
  generalize (lg_sl ([.ref (q 14), .int p1]) ++ List.replicate (2 - (lg_sl ([.ref (q 14), .int p1])).length) Slot.unset).toArray = ls at hl ⊢
  have hl : lv_has ls 2 [(0, .ref (q 14)), (1, .int p1)] := hl
  obtain ⟨H, hHe⟩ : ∃ H, s.heap = H := ⟨_, rfl⟩
  rw [hHe] at hP ⊢
  obtain ⟨locs, hLe⟩ : ∃ x : List Loc, ([] : List Loc) = x := ⟨_, rfl⟩
  rw [hLe]
  have hS : va_S (aT 30 q) s.heap H locs := by rw [← hHe, ← hLe]; exact va_S.rf
  refine lv_aload_n hx hb dX3_add_0 rfl (lv_at hl 0 rfl) ?_
  refine xc_i (va_runV (As := []) (rest := []) ⟨hx, hb, hml, hown, hts⟩ (c_X3_isFull_T l dC dI cI cJ q σ ) (cwV 0 hts (gV ml_X3_35 im_X3_isFull se_X3_isFull in_X3 co_X3_isFull) rfl rfl rfl (by decide +kernel) ⟨Nat.le_of_ble_eq_true rfl, Nat.le_of_ble_eq_true rfl⟩) (preV hK hP (pos := 14) (ci := 3) rfl rfl) rfl rfl hl.1 rfl (lv_room (Nat.le_of_ble_eq_true rfl)) dX3_add_1 ⟨Nat.zero_le _, Nat.zero_le _⟩) ?_
  refine lv_if_eq (tgt := 9) hx hb dX3_add_4 (by decide) (fun c_4 => ?_) (fun c_4 => ?_)
  · refine lv_aload_n hx hb dX3_add_9 rfl (lv_at hl 0 rfl) ?_
    refine va_get (D := (dC, dI)) (ci := 3) (v := .ref (q 19)) (C := RX3) (T := TX3) (N := 5) hx hb hts inX3 hown hK hP 14 rfl rfl 1 (by decide) (hts _ fl_X3_25) (fun _ h9 => h9) rfl dX3_add_10 ?_
    refine lv_aload_n hx hb dX3_add_13 rfl (lv_at hl 0 rfl) ?_
    refine va_get (D := (dC, dI)) (ci := 3) (v := .int (σ.2.1 3)) (C := RX3) (T := TX3) (N := 5) hx hb hts inX3 hown hK hP 14 rfl rfl 4 (by decide) (hts _ fl_X3_32) (fun _ h9 => h9) rfl dX3_add_14 ?_
    refine lv_iload_n hx hb dX3_add_17 rfl (lv_at hl 1 rfl) ?_
    refine va_iast hx hb hK hP (wT_D hd) hS 19 0 rfl rfl (full_in_T hI c_4) dX3_add_18 (fun H locs hP _ hS => ?_)
    have hP : va_P (dC, dI) vwCl (wT cI cJ q (sI σ 13 ((σ.2.1 3).toNatClampNeg) p1)) H := hP
    refine lv_aload_n hx hb dX3_add_19 rfl (lv_at hl 0 rfl) ?_
    refine va_get (D := (dC, dI)) (ci := 3) (v := .ref (q 20)) (C := RX3) (T := TX3) (N := 5) hx hb hts inX3 hown hK hP 14 rfl rfl 2 (by decide) (hts _ fl_X3_29) (fun _ h9 => h9) rfl dX3_add_20 ?_
    refine lv_aload_n hx hb dX3_add_23 rfl (lv_at hl 0 rfl) ?_
    refine va_get (D := (dC, dI)) (ci := 3) (v := .int (σ.2.1 3)) (C := RX3) (T := TX3) (N := 5) hx hb hts inX3 hown hK hP 14 rfl rfl 4 (by decide) (hts _ fl_X3_32) (fun _ h9 => h9) rfl dX3_add_24 ?_
    refine lv_aload_n hx hb dX3_add_27 rfl (lv_at hl 0 rfl) ?_
    refine va_get (D := (dC, dI)) (ci := 3) (v := .ref (q 1)) (C := RX3) (T := TX3) (N := 5) hx hb hts inX3 hown hK hP 14 rfl rfl 0 (by decide) (hts _ fl_X3_9) (fun _ h9 => h9) rfl dX3_add_28 ?_
    refine xc_i (va_runV (As := []) (rest := [.int (σ.2.1 3), .ref (q 20)]) ⟨hx, hb, hml, hown, hts⟩ (c_X2_open l dC dI cI cJ q (sI σ 13 ((σ.2.1 3).toNatClampNeg) p1) ) (cwV 0 hts (gV ml_X3_39 im_X2_open se_X2_open in_X2 co_X2_open) rfl rfl rfl (by decide +kernel) ⟨Nat.le_of_ble_eq_true rfl, Nat.le_of_ble_eq_true rfl⟩) (preV hK hP (pos := 1) (ci := 2) rfl rfl) rfl rfl hl.1 rfl (lv_room (Nat.le_of_ble_eq_true rfl)) dX3_add_31 ⟨Nat.zero_le _, Nat.zero_le _⟩) ?_
    refine va_iast hx hb hK hP (wT_D hd) hS 20 0 rfl rfl (full_in_T hI c_4) dX3_add_34 (fun H locs hP _ hS => ?_)
    have hP : va_P (dC, dI) vwCl (wT cI cJ q (sI (sI σ 13 ((σ.2.1 3).toNatClampNeg) p1) 14 ((σ.2.1 3).toNatClampNeg) ((σ.2.1 4) - 1))) H := hP
    refine lv_aload_n hx hb dX3_add_35 rfl (lv_at hl 0 rfl) ?_
    refine lv_dup hx hb dX3_add_36 rfl ?_
    refine va_get (D := (dC, dI)) (ci := 3) (v := .int (σ.2.1 3)) (C := RX3) (T := TX3) (N := 5) hx hb hts inX3 hown hK hP 14 rfl rfl 4 (by decide) (hts _ fl_X3_32) (fun _ h9 => h9) rfl dX3_add_37 ?_
    refine lv_iconst (v := 1) hx hb dX3_add_40 (by decide) ?_
    refine lv_iadd hx hb dX3_add_41 ?_
    refine va_put (D := (dC, dI)) (ci := 3) (v := .int ((σ.2.1 3) + 1)) (ty := .int) (C := RX3) (T := TX3) (N := 5) hx hb hts inX3 tyX3 tyX3_ok nmX3 hown hK hP (wT_D hd) hS 14 rfl rfl 4 (by decide) (hts _ fl_X3_32) (fun _ h9 => h9) rfl (by decide +kernel) rfl rfl (Nat.le_of_ble_eq_true rfl) dX3_add_42 (fun H locs hP _ hS => ?_)
    have hP : va_P (dC, dI) vwCl (wT cI cJ q (sV (sI (sI σ 13 ((σ.2.1 3).toNatClampNeg) p1) 14 ((σ.2.1 3).toNatClampNeg) ((σ.2.1 4) - 1)) 3 ((σ.2.1 3) + 1))) H := hP
    refine lv_aload_n hx hb dX3_add_45 rfl (lv_at hl 0 rfl) ?_
    refine va_get (D := (dC, dI)) (ci := 3) (v := .int ((σ.2.1 3) + 1)) (C := RX3) (T := TX3) (N := 5) hx hb hts inX3 hown hK hP 14 rfl rfl 4 (by decide) (hts _ fl_X3_32) (fun _ h9 => h9) rfl dX3_add_46 ?_
    refine lv_iconst (v := 1) hx hb dX3_add_49 (by decide) ?_
    refine lv_isub hx hb dX3_add_50 ?_
    have hF : fX3_add_T σ p1 = (((σ.2.1 3) + 1) - 1, (sV (sI (sI σ 13 ((σ.2.1 3).toNatClampNeg) p1) 14 ((σ.2.1 3).toNatClampNeg) ((σ.2.1 4) - 1)) 3 ((σ.2.1 3) + 1))) := by rw [fX3_add_T, if_pos c_4]
    have hP9 : va_P (dC, dI) vwCl (wT cI cJ q (fX3_add_T σ p1).2) H := by rw [hF]; exact hP
    exact W.iret (v := ((σ.2.1 3) + 1) - 1) hx hb hr (fun t ht hW => ⟨(by rw [hF]), by rw [ht]; exact hP9, hS.F ht⟩) hS.2.2 dX3_add_51
  · refine lv_iconst (v := (-1)) hx hb dX3_add_7 (by decide) ?_
    have hF : fX3_add_T σ p1 = ((-1), σ) := by rw [fX3_add_T, if_neg c_4]
    have hP9 : va_P (dC, dI) vwCl (wT cI cJ q (fX3_add_T σ p1).2) H := by rw [hF]; exact hP
    exact W.iret (v := (-1)) hx hb hr (fun t ht hW => ⟨(by rw [hF]), by rw [ht]; exact hP9, hS.F ht⟩) hS.2.2 dX3_add_8

theorem add_in_T {σ : St} {t : Int32} (hI : IB σ) (c : ¬ (fX3_add_T σ t).1 = (-1)) : vp_in (fX3_add_T σ t).1 300 := by
  unfold fX3_add_T at c ⊢
  split at c
  · rename_i h
    rw [if_pos h]
    have := full_in_T hI h
    have e : (σ.2.1 3) + 1 - 1 = σ.2.1 3 := Int32.add_sub_cancel _ _
    rw [e]
    exact this
  · exact absurd rfl c

def fX3_isKnown_T (σ : St) (p1 : Int32) (p2 : Int32) : Int32 :=
  (if p1 < 0 then 0 else (if (σ.2.1 3) ≤ p1 then 0 else (if p2 < (σ.1 13 p1.toNatClampNeg) then 0 else (if (fX2_isUndone σ (σ.1 14 p1.toNatClampNeg) p2) = 0 then 1 else 0))))
set_option maxHeartbeats 4000000 in
set_option maxRecDepth 100000 in
theorem c_X3_isKnown_T (l : Launch) (dC : Nat → ClassId) (dI : Nat → Nat → Nat) (cI cJ : ClassId) (q : Nat → Nat) (σ : St) (p1 : Int32) (p2 : Int32) (hI : IB σ) : Met l yX3_isKnown (.code yX3_isKnown cX3_isKnown 3 (some .boolean) :: tb) { frames := 1, cells := 0, slots := 0, locals := 22 } (Pu (dC, dI) (tyC cI cJ) (wT cI cJ q σ) [.ref (q 14), .int p1, .int p2]) (vp_Si (fun r => r = fX3_isKnown_T σ p1 p2)) 0 0 (fun _ => False) := by
  refine Met.ofW (cc := cX3_isKnown) (maxL := 3) (ret := (some .boolean)) (by decide) rfl ?_
  intro p e s m args below meth c s₁ B hml hv
  obtain ⟨rfl, hP, hK⟩ := hv
  have hx := B.exec
  have hb := B.bytes
  have hr := B.returns
  have hts0 := atoms_spec (ws := .code yX3_isKnown cX3_isKnown 3 (some .boolean) :: tb) B.pre
  have hts : ∀ w ∈ tb, w.before _ s = true := fun w hw => hts0 w (List.mem_cons_of_mem _ hw)
  have hown : s.vm.findClass RX3 = some m.cls := findClass_of_methodNamed B.named
  have hlocks := B.notSynchronized
  have hl := lv_entry ([.ref (q 14), .int p1, .int p2]) (n := 3) (Nat.le_of_ble_eq_true rfl)
  rw [lg_entry_eq]
  generalize (lg_sl ([.ref (q 14), .int p1, .int p2]) ++ List.replicate (3 - (lg_sl ([.ref (q 14), .int p1, .int p2])).length) Slot.unset).toArray = ls at hl ⊢
  have hl : lv_has ls 3 [(0, .ref (q 14)), (1, .int p1), (2, .int p2)] := hl
  refine lv_iload_n hx hb dX3_isKnown_0 rfl (lv_at hl 1 rfl) ?_
  refine lv_if_lt (tgt := 43) hx hb dX3_isKnown_1 (by decide) (fun c_1 => ?_) (fun c_1 => ?_)
  · refine lv_iconst (v := 0) hx hb dX3_isKnown_43 (by decide) ?_
    exact W.zret (v := 0) hx hb hr narrow_b0 (fun t ht hW => ⟨_, rfl, (by rw [fX3_isKnown_T, if_pos c_1]), ht⟩) (fun _ h => absurd h List.not_mem_nil) dX3_isKnown_44
  · refine lv_iload_n hx hb dX3_isKnown_4 rfl (lv_at hl 1 rfl) ?_
    refine lv_aload_n hx hb dX3_isKnown_5 rfl (lv_at hl 0 rfl) ?_
    refine va_get (D := (dC, dI)) (ci := 3) (v := .int (σ.2.1 3)) (C := RX3) (T := TX3) (N := 5) hx hb hts inX3 hown hK hP 14 rfl rfl 4 (by decide) (hts _ fl_X3_32) (fun _ h9 => h9) rfl dX3_isKnown_6 ?_
    refine lv_icmp_ge (tgt := 43) hx hb dX3_isKnown_9 (by decide) (fun c_9 => ?_) (fun c_9 => ?_)
    · refine lv_iconst (v := 0) hx hb dX3_isKnown_43 (by decide) ?_
      exact W.zret (v := 0) hx hb hr narrow_b0 (fun t ht hW => ⟨_, rfl, (by rw [fX3_isKnown_T, if_neg c_1, if_pos c_9]), ht⟩) (fun _ h => absurd h List.not_mem_nil) dX3_isKnown_44
    · refine lv_aload_n hx hb dX3_isKnown_12 rfl (lv_at hl 0 rfl) ?_
      refine va_get (D := (dC, dI)) (ci := 3) (v := .ref (q 19)) (C := RX3) (T := TX3) (N := 5) hx hb hts inX3 hown hK hP 14 rfl rfl 1 (by decide) (hts _ fl_X3_25) (fun _ h9 => h9) rfl dX3_isKnown_13 ?_
      refine lv_iload_n hx hb dX3_isKnown_16 rfl (lv_at hl 1 rfl) ?_
      refine va_iald hx hb hK hP 19 0 rfl rfl (vp_in_mono (in_size hI.2.2.1 (by decide) c_1 c_9) hI.2.2.1.2) dX3_isKnown_17 ?_
      refine lv_iload_n hx hb dX3_isKnown_18 rfl (lv_at hl 2 rfl) ?_
      refine lv_icmp_gt (tgt := 43) hx hb dX3_isKnown_19 (by decide) (fun c_19 => ?_) (fun c_19 => ?_)
      · refine lv_iconst (v := 0) hx hb dX3_isKnown_43 (by decide) ?_
        exact W.zret (v := 0) hx hb hr narrow_b0 (fun t ht hW => ⟨_, rfl, (by rw [fX3_isKnown_T, if_neg c_1, if_neg c_9, if_pos c_19]), ht⟩) (fun _ h => absurd h List.not_mem_nil) dX3_isKnown_44
      · refine lv_aload_n hx hb dX3_isKnown_22 rfl (lv_at hl 0 rfl) ?_
        refine va_get (D := (dC, dI)) (ci := 3) (v := .ref (q 1)) (C := RX3) (T := TX3) (N := 5) hx hb hts inX3 hown hK hP 14 rfl rfl 0 (by decide) (hts _ fl_X3_9) (fun _ h9 => h9) rfl dX3_isKnown_23 ?_
        refine lv_aload_n hx hb dX3_isKnown_26 rfl (lv_at hl 0 rfl) ?_
        refine va_get (D := (dC, dI)) (ci := 3) (v := .ref (q 20)) (C := RX3) (T := TX3) (N := 5) hx hb hts inX3 hown hK hP 14 rfl rfl 2 (by decide) (hts _ fl_X3_29) (fun _ h9 => h9) rfl dX3_isKnown_27 ?_
        refine lv_iload_n hx hb dX3_isKnown_30 rfl (lv_at hl 1 rfl) ?_
        refine va_iald hx hb hK hP 20 0 rfl rfl (vp_in_mono (in_size hI.2.2.1 (by decide) c_1 c_9) hI.2.2.1.2) dX3_isKnown_31 ?_
        refine lv_iload_n hx hb dX3_isKnown_32 rfl (lv_at hl 2 rfl) ?_
        refine xc_i (va_runV (As := [.int (σ.1 14 p1.toNatClampNeg), .int p2]) (rest := []) ⟨hx, hb, hml, hown, hts⟩ (c_X2_isUndone l dC dI cI cJ q σ (σ.1 14 p1.toNatClampNeg) p2 (hI.2.2.2.2.1 _ (vp_in_lt (in_size hI.2.2.1 (by decide) c_1 c_9)))) (cwV 2 hts (gV ml_X3_45 im_X2_isUndone se_X2_isUndone in_X2 co_X2_isUndone) rfl rfl rfl (by decide +kernel) ⟨Nat.le_of_ble_eq_true rfl, Nat.le_of_ble_eq_true rfl⟩) (preV hK hP (pos := 1) (ci := 2) rfl rfl) rfl rfl hl.1 rfl (lv_room (Nat.le_of_ble_eq_true rfl)) dX3_isKnown_33 ⟨Nat.zero_le _, Nat.zero_le _⟩) ?_
        refine lv_if_ne (tgt := 43) hx hb dX3_isKnown_36 (by decide) (fun c_36 => ?_) (fun c_36 => ?_)
        · refine lv_iconst (v := 0) hx hb dX3_isKnown_43 (by decide) ?_
          exact W.zret (v := 0) hx hb hr narrow_b0 (fun t ht hW => ⟨_, rfl, (by rw [fX3_isKnown_T, if_neg c_1, if_neg c_9, if_neg c_19, if_neg c_36]), ht⟩) (fun _ h => absurd h List.not_mem_nil) dX3_isKnown_44
        · refine lv_iconst (v := 1) hx hb dX3_isKnown_39 (by decide) ?_
          refine lv_goto (tgt := 44) hx hb dX3_isKnown_40 (by decide) ?_
          exact W.zret (v := 1) hx hb hr narrow_b1 (fun t ht hW => ⟨_, rfl, (by rw [fX3_isKnown_T, if_neg c_1, if_neg c_9, if_neg c_19, if_pos c_36]), ht⟩) (fun _ h => absurd h List.not_mem_nil) dX3_isKnown_44

theorem b_X3_isKnown_T (σ : St) (p1 : Int32) (p2 : Int32) : fX3_isKnown_T σ p1 p2 = 0 ∨ fX3_isKnown_T σ p1 p2 = 1 := by
  unfold fX3_isKnown_T
  repeat' split
  all_goals first | exact Or.inl rfl | exact Or.inr rfl

theorem known_in_T {σ : St} {x k : Int32} (hI : IB σ) (c : ¬ fX3_isKnown_T σ x k = 0) : vp_in x (σ.2.1 3).toNatClampNeg := by
  unfold fX3_isKnown_T at c
  split at c
  · exact absurd rfl c
  · split at c
    · exact absurd rfl c
    · exact in_size hI.2.2.1 (by decide) (by assumption) (by assumption)

def flX3_sizeOfLoad_T_4 (σ : St) (p1 : Int32) : Nat → Nat → Int32 → Int32
  | 0, i, n => n
  | k + 1, i, n => (if (σ.1 14 i) = p1 then flX3_sizeOfLoad_T_4 σ p1 k (i + 1) (n + 1) else flX3_sizeOfLoad_T_4 σ p1 k (i + 1) n)
def fX3_sizeOfLoad_T (σ : St) (p1 : Int32) : Int32 :=
  flX3_sizeOfLoad_T_4 σ p1 ((σ.2.1 3).toNatClampNeg) 0 0
set_option maxHeartbeats 4000000 in
set_option maxRecDepth 100000 in
theorem c_X3_sizeOfLoad_T (l : Launch) (dC : Nat → ClassId) (dI : Nat → Nat → Nat) (cI cJ : ClassId) (q : Nat → Nat) (σ : St) (p1 : Int32) (hI : IB σ) : Met l yX3_sizeOfLoad (.code yX3_sizeOfLoad cX3_sizeOfLoad 4 (some .int) :: tb) { frames := 0, cells := 0, slots := 0, locals := 0 } (Pu (dC, dI) (tyC cI cJ) (wT cI cJ q σ) [.ref (q 14), .int p1]) (vp_Si (fun r => r = fX3_sizeOfLoad_T σ p1)) 0 0 (fun _ => False) := by
  refine Met.ofW (cc := cX3_sizeOfLoad) (maxL := 4) (ret := (some .int)) (by decide) rfl ?_
  intro p e s m args below meth c s₁ B hml hv
  obtain ⟨rfl, hP, hK⟩ := hv
  have hx := B.exec
  have hb := B.bytes
  have hr := B.returns
  have hts0 := atoms_spec (ws := .code yX3_sizeOfLoad cX3_sizeOfLoad 4 (some .int) :: tb) B.pre
  have hts : ∀ w ∈ tb, w.before _ s = true := fun w hw => hts0 w (List.mem_cons_of_mem _ hw)
  have hown : s.vm.findClass RX3 = some m.cls := findClass_of_methodNamed B.named
  have hlocks := B.notSynchronized
  have hl := lv_entry ([.ref (q 14), .int p1]) (n := 4) (Nat.le_of_ble_eq_true rfl)
  rw [lg_entry_eq]
  generalize (lg_sl ([.ref (q 14), .int p1]) ++ List.replicate (4 - (lg_sl ([.ref (q 14), .int p1])).length) Slot.unset).toArray = ls at hl ⊢
  have hl : lv_has ls 4 [(0, .ref (q 14)), (1, .int p1)] := hl
  refine lv_iconst (v := 0) hx hb dX3_sizeOfLoad_0 (by decide) ?_
  refine lv_istore_n (lv' := [(2, .int 0), (0, .ref (q 14)), (1, .int p1)]) hx hb dX3_sizeOfLoad_1 rfl hl (by decide) rfl (fun ls hl => ?_)
  refine lv_iconst (v := 0) hx hb dX3_sizeOfLoad_2 (by decide) ?_
  refine lv_istore_n (lv' := [(3, .int 0), (2, .int 0), (0, .ref (q 14)), (1, .int p1)]) hx hb dX3_sizeOfLoad_3 rfl hl (by decide) rfl (fun ls hl => ?_)
  have hz : szI (σ.2.1 3) 300 := hI.2.2.1
  have hz2 := hz.2
  have loop_4 : ∀ (k i : Nat) (n : Int32), i + k = (σ.2.1 3).toNatClampNeg → fX3_sizeOfLoad_T σ p1 = flX3_sizeOfLoad_T_4 σ p1 k i n → ∀ (ls : Array Slot), lv_has ls 4 [(0, .ref (q 14)), (1, .int p1), (3, .int (nI i)), (2, .int n)] → W p l e (headSpec (.code yX3_sizeOfLoad cX3_sizeOfLoad 4 (some .int) :: tb) { frames := 0, cells := 0, slots := 0, locals := 0 }).room s m (List.toArray [.ref (q 14), .int p1]) below meth c s.heap [] 0 0 (MQ below (vp_Si (fun r => r = fX3_sizeOfLoad_T σ p1)) (List.toArray [.ref (q 14), .int p1]) s 0 0 (fun _ => False)) (F0 m 4 ls []) := by
    intro k
    induction k with
    | zero =>
      intro i n hik hE ls hl
      refine lv_iload_n hx hb dX3_sizeOfLoad_4 rfl (lv_at hl 2 rfl) ?_
      refine lv_aload_n hx hb dX3_sizeOfLoad_5 rfl (lv_at hl 0 rfl) ?_
      refine va_get (D := (dC, dI)) (ci := 3) (v := .int (σ.2.1 3)) (C := RX3) (T := TX3) (N := 5) hx hb hts inX3 hown hK hP 14 rfl rfl 4 (by decide) (hts _ fl_X3_32) (fun _ h9 => h9) rfl dX3_sizeOfLoad_6 ?_
      refine lv_icmp_ge (tgt := 31) hx hb dX3_sizeOfLoad_9 (by decide) (fun c_9 => ?_) (fun c_9 => ?_)
      · refine lv_iload_n hx hb dX3_sizeOfLoad_31 rfl (lv_at hl 3 rfl) ?_
        exact W.iret (v := n) hx hb hr (fun t ht hW => ⟨_, rfl, (by rw [hE, flX3_sizeOfLoad_T_4]), ht⟩) (fun _ h => absurd h List.not_mem_nil) dX3_sizeOfLoad_32
      · exact absurd (by rw [hz.1]; exact nI_le (by omega) (by omega)) c_9
    | succ k ih =>
      intro i n hik hE ls hl
      refine lv_iload_n hx hb dX3_sizeOfLoad_4 rfl (lv_at hl 2 rfl) ?_
      refine lv_aload_n hx hb dX3_sizeOfLoad_5 rfl (lv_at hl 0 rfl) ?_
      refine va_get (D := (dC, dI)) (ci := 3) (v := .int (σ.2.1 3)) (C := RX3) (T := TX3) (N := 5) hx hb hts inX3 hown hK hP 14 rfl rfl 4 (by decide) (hts _ fl_X3_32) (fun _ h9 => h9) rfl dX3_sizeOfLoad_6 ?_
      refine lv_icmp_ge (tgt := 31) hx hb dX3_sizeOfLoad_9 (by decide) (fun c_9 => ?_) (fun c_9 => ?_)
      · exact absurd c_9 (by rw [hz.1]; exact nI_ge (by omega) (by omega))
      · refine lv_aload_n hx hb dX3_sizeOfLoad_12 rfl (lv_at hl 0 rfl) ?_
        refine va_get (D := (dC, dI)) (ci := 3) (v := .ref (q 20)) (C := RX3) (T := TX3) (N := 5) hx hb hts inX3 hown hK hP 14 rfl rfl 2 (by decide) (hts _ fl_X3_29) (fun _ h9 => h9) rfl dX3_sizeOfLoad_13 ?_
        refine lv_iload_n hx hb dX3_sizeOfLoad_16 rfl (lv_at hl 2 rfl) ?_
        refine xa_ild hx hb hK hP 20 0 rfl rfl (by omega) (by decide) dX3_sizeOfLoad_17 ?_
        refine lv_iload_n hx hb dX3_sizeOfLoad_18 rfl (lv_at hl 1 rfl) ?_
        refine lv_icmp_ne (tgt := 25) hx hb dX3_sizeOfLoad_19 (by decide) (fun c_19 => ?_) (fun c_19 => ?_)
        · refine lv_iinc (v := nI (i + 1)) (lv' := [(3, .int (nI (i + 1))), (0, .ref (q 14)), (1, .int p1), (2, .int n)]) hx hb dX3_sizeOfLoad_25 hl (k := 2) rfl (nI_1 i) (by decide) rfl (fun ls hl => ?_)
          refine lv_goto (tgt := 4) hx hb dX3_sizeOfLoad_28 (by decide) ?_
          exact ih (i + 1) n (by omega) (by rw [hE, flX3_sizeOfLoad_T_4, if_neg c_19]) ls (lv_sub hl [1, 2, 0, 3] rfl)
        · refine lv_iinc (v := n + 1) (lv' := [(2, .int (n + 1)), (0, .ref (q 14)), (1, .int p1), (3, .int (nI i))]) hx hb dX3_sizeOfLoad_22 hl (k := 3) rfl rfl (by decide) rfl (fun ls hl => ?_)
          refine lv_iinc (v := nI (i + 1)) (lv' := [(3, .int (nI (i + 1))), (2, .int (n + 1)), (0, .ref (q 14)), (1, .int p1)]) hx hb dX3_sizeOfLoad_25 hl (k := 3) rfl (nI_1 i) (by decide) rfl (fun ls hl => ?_)
          refine lv_goto (tgt := 4) hx hb dX3_sizeOfLoad_28 (by decide) ?_
          exact ih (i + 1) (n + 1) (by omega) (by rw [hE, flX3_sizeOfLoad_T_4, if_pos c_19]) ls (lv_sub hl [2, 3, 0, 1] rfl)
  exact loop_4 ((σ.2.1 3).toNatClampNeg) 0 0 (by rw [Nat.zero_add]) (by rw [fX3_sizeOfLoad_T]) ls (lv_sub hl [2, 3, 0, 1] rfl)
