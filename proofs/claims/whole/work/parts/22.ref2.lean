def fX7_isKnown (σ : St) (p1 : Int32) (p2 : Int32) (p3 : Int32) : Int32 :=
  (if p3 < p1 then 0 else (if (σ.1 20 p2.toNatClampNeg) ≤ p3 then 0 else 1))
set_option maxHeartbeats 4000000 in
set_option maxRecDepth 100000 in
theorem c_X7_isKnown (l : Launch) (dC : Nat → ClassId) (dI : Nat → Nat → Nat) (cI cJ : ClassId) (q : Nat → Nat) (σ : St) (p1 : Int32) (p2 : Int32) (p3 : Int32) (hL : vp_in p2 40) : Met l yX7_isKnown (.code yX7_isKnown cX7_isKnown 4 (some .boolean) :: tb) { frames := 0, cells := 0, slots := 0, locals := 0 } (Pu (dC, dI) (tyC cI cJ) (wM cI cJ q σ) [.ref (q 0), .int p1, .int p2, .int p3]) (vp_Si (fun r => r = fX7_isKnown σ p1 p2 p3)) 0 0 (fun _ => False) := by
  refine Met.ofW (cc := cX7_isKnown) (maxL := 4) (ret := (some .boolean)) (by decide) rfl ?_
  intro p e s m args below meth c s₁ B hml hv
  obtain ⟨rfl, hP, hK⟩ := hv
  have hx := B.exec
  have hb := B.bytes
  have hr := B.returns
  have hts0 := atoms_spec (ws := .code yX7_isKnown cX7_isKnown 4 (some .boolean) :: tb) B.pre
  have hts : ∀ w ∈ tb, w.before _ s = true := fun w hw => hts0 w (List.mem_cons_of_mem _ hw)
  have hown : s.vm.findClass RX7 = some m.cls := findClass_of_methodNamed B.named
  have hlocks := B.notSynchronized
  have hl := lv_entry ([.ref (q 0), .int p1, .int p2, .int p3]) (n := 4) (Nat.le_of_ble_eq_true rfl)
  rw [lg_entry_eq]
  generalize (lg_sl ([.ref (q 0), .int p1, .int p2, .int p3]) ++ List.replicate (4 - (lg_sl ([.ref (q 0), .int p1, .int p2, .int p3])).length) Slot.unset).toArray = ls at hl ⊢
  have hl : lv_has ls 4 [(0, .ref (q 0)), (1, .int p1), (2, .int p2), (3, .int p3)] := hl
  refine lv_iload_n hx hb dX7_isKnown_0 rfl (lv_at hl 1 rfl) ?_
  refine lv_iload_n hx hb dX7_isKnown_1 rfl (lv_at hl 3 rfl) ?_
  refine lv_icmp_gt (tgt := 19) hx hb dX7_isKnown_2 (by decide) (fun c_2 => ?_) (fun c_2 => ?_)
  · refine lv_iconst (v := 0) hx hb dX7_isKnown_19 (by decide) ?_
    exact W.zret (v := 0) hx hb hr narrow_b0 (fun t ht hW => ⟨_, rfl, (by rw [fX7_isKnown, if_pos c_2]), ht⟩) (fun _ h => absurd h List.not_mem_nil) dX7_isKnown_20
  · refine lv_aload_n hx hb dX7_isKnown_5 rfl (lv_at hl 0 rfl) ?_
    refine va_get (D := (dC, dI)) (ci := 7) (v := .ref (q 21)) (C := RX7) (T := TX7) (N := 26) hx hb hts inX7 hown hK hP 0 rfl rfl 25 (by decide) (hts _ fl_X7_70) (fun _ h9 => h9) rfl dX7_isKnown_6 ?_
    refine lv_iload_n hx hb dX7_isKnown_9 rfl (lv_at hl 2 rfl) ?_
    refine va_iald hx hb hK hP 21 0 rfl rfl (by assumption) dX7_isKnown_10 ?_
    refine lv_iload_n hx hb dX7_isKnown_11 rfl (lv_at hl 3 rfl) ?_
    refine lv_icmp_le (tgt := 19) hx hb dX7_isKnown_12 (by decide) (fun c_12 => ?_) (fun c_12 => ?_)
    · refine lv_iconst (v := 0) hx hb dX7_isKnown_19 (by decide) ?_
      exact W.zret (v := 0) hx hb hr narrow_b0 (fun t ht hW => ⟨_, rfl, (by rw [fX7_isKnown, if_neg c_2, if_pos c_12]), ht⟩) (fun _ h => absurd h List.not_mem_nil) dX7_isKnown_20
    · refine lv_iconst (v := 1) hx hb dX7_isKnown_15 (by decide) ?_
      refine lv_goto (tgt := 20) hx hb dX7_isKnown_16 (by decide) ?_
      exact W.zret (v := 1) hx hb hr narrow_b1 (fun t ht hW => ⟨_, rfl, (by rw [fX7_isKnown, if_neg c_2, if_neg c_12]), ht⟩) (fun _ h => absurd h List.not_mem_nil) dX7_isKnown_20

theorem b_X7_isKnown (σ : St) (p1 : Int32) (p2 : Int32) (p3 : Int32) : fX7_isKnown σ p1 p2 p3 = 0 ∨ fX7_isKnown σ p1 p2 p3 = 1 := by
  unfold fX7_isKnown
  repeat' split
  all_goals first | exact Or.inl rfl | exact Or.inr rfl

def fX7_isTelling (σ : St) (p1 : Int32) (p2 : Int32) (p3 : Int32) (p4 : Int32) : Int32 :=
  (if (σ.1 9 p1.toNatClampNeg) = p2 then (if (σ.1 10 p1.toNatClampNeg) = p3 then (if (fX7_isKnown σ (σ.1 13 p1.toNatClampNeg) (σ.1 14 p1.toNatClampNeg) p4) = 0 then 0 else 1) else 0) else 0)
set_option maxHeartbeats 4000000 in
set_option maxRecDepth 100000 in
theorem c_X7_isTelling (l : Launch) (dC : Nat → ClassId) (dI : Nat → Nat → Nat) (cI cJ : ClassId) (q : Nat → Nat) (σ : St) (p1 : Int32) (p2 : Int32) (p3 : Int32) (p4 : Int32) (hI : IB σ) (hR : vp_in p1 (σ.2.1 3).toNatClampNeg) : Met l yX7_isTelling (.code yX7_isTelling cX7_isTelling 5 (some .boolean) :: tb) { frames := 1, cells := 0, slots := 0, locals := 23 } (Pu (dC, dI) (tyC cI cJ) (wM cI cJ q σ) [.ref (q 0), .int p1, .int p2, .int p3, .int p4]) (vp_Si (fun r => r = fX7_isTelling σ p1 p2 p3 p4)) 0 0 (fun _ => False) := by
  refine Met.ofW (cc := cX7_isTelling) (maxL := 5) (ret := (some .boolean)) (by decide) rfl ?_
  intro p e s m args below meth c s₁ B hml hv
  obtain ⟨rfl, hP, hK⟩ := hv
  have hx := B.exec
  have hb := B.bytes
  have hr := B.returns
  have hts0 := atoms_spec (ws := .code yX7_isTelling cX7_isTelling 5 (some .boolean) :: tb) B.pre
  have hts : ∀ w ∈ tb, w.before _ s = true := fun w hw => hts0 w (List.mem_cons_of_mem _ hw)
  have hown : s.vm.findClass RX7 = some m.cls := findClass_of_methodNamed B.named
  have hlocks := B.notSynchronized
  have hl := lv_entry ([.ref (q 0), .int p1, .int p2, .int p3, .int p4]) (n := 5) (Nat.le_of_ble_eq_true rfl)
  rw [lg_entry_eq]
  generalize (lg_sl ([.ref (q 0), .int p1, .int p2, .int p3, .int p4]) ++ List.replicate (5 - (lg_sl ([.ref (q 0), .int p1, .int p2, .int p3, .int p4])).length) Slot.unset).toArray = ls at hl ⊢
  have hl : lv_has ls 5 [(0, .ref (q 0)), (1, .int p1), (2, .int p2), (3, .int p3), (4, .int p4)] := hl
  refine lv_aload_n hx hb dX7_isTelling_0 rfl (lv_at hl 0 rfl) ?_
  refine va_get (D := (dC, dI)) (ci := 7) (v := .ref (q 15)) (C := RX7) (T := TX7) (N := 26) hx hb hts inX7 hown hK hP 0 rfl rfl 19 (by decide) (hts _ fl_X7_52) (fun _ h9 => h9) rfl dX7_isTelling_1 ?_
  refine lv_iload_n hx hb dX7_isTelling_4 rfl (lv_at hl 1 rfl) ?_
  refine va_iald hx hb hK hP 15 0 rfl rfl (vp_in_mono hR hI.2.2.1.2) dX7_isTelling_5 ?_
  refine lv_iload_n hx hb dX7_isTelling_6 rfl (lv_at hl 2 rfl) ?_
  refine lv_icmp_ne (tgt := 45) hx hb dX7_isTelling_7 (by decide) (fun c_7 => ?_) (fun c_7 => ?_)
  · refine lv_iconst (v := 0) hx hb dX7_isTelling_45 (by decide) ?_
    exact W.zret (v := 0) hx hb hr narrow_b0 (fun t ht hW => ⟨_, rfl, (by rw [fX7_isTelling, if_neg c_7]), ht⟩) (fun _ h => absurd h List.not_mem_nil) dX7_isTelling_46
  · refine lv_aload_n hx hb dX7_isTelling_10 rfl (lv_at hl 0 rfl) ?_
    refine va_get (D := (dC, dI)) (ci := 7) (v := .ref (q 16)) (C := RX7) (T := TX7) (N := 26) hx hb hts inX7 hown hK hP 0 rfl rfl 20 (by decide) (hts _ fl_X7_55) (fun _ h9 => h9) rfl dX7_isTelling_11 ?_
    refine lv_iload_n hx hb dX7_isTelling_14 rfl (lv_at hl 1 rfl) ?_
    refine va_iald hx hb hK hP 16 0 rfl rfl (vp_in_mono hR hI.2.2.1.2) dX7_isTelling_15 ?_
    refine lv_iload_n hx hb dX7_isTelling_16 rfl (lv_at hl 3 rfl) ?_
    refine lv_icmp_ne (tgt := 45) hx hb dX7_isTelling_17 (by decide) (fun c_17 => ?_) (fun c_17 => ?_)
    · refine lv_iconst (v := 0) hx hb dX7_isTelling_45 (by decide) ?_
      exact W.zret (v := 0) hx hb hr narrow_b0 (fun t ht hW => ⟨_, rfl, (by rw [fX7_isTelling, if_pos c_7, if_neg c_17]), ht⟩) (fun _ h => absurd h List.not_mem_nil) dX7_isTelling_46
    · refine lv_aload_n hx hb dX7_isTelling_20 rfl (lv_at hl 0 rfl) ?_
      refine lv_aload_n hx hb dX7_isTelling_21 rfl (lv_at hl 0 rfl) ?_
      refine va_get (D := (dC, dI)) (ci := 7) (v := .ref (q 19)) (C := RX7) (T := TX7) (N := 26) hx hb hts inX7 hown hK hP 0 rfl rfl 23 (by decide) (hts _ fl_X7_64) (fun _ h9 => h9) rfl dX7_isTelling_22 ?_
      refine lv_iload_n hx hb dX7_isTelling_25 rfl (lv_at hl 1 rfl) ?_
      refine va_iald hx hb hK hP 19 0 rfl rfl (vp_in_mono hR hI.2.2.1.2) dX7_isTelling_26 ?_
      refine lv_aload_n hx hb dX7_isTelling_27 rfl (lv_at hl 0 rfl) ?_
      refine va_get (D := (dC, dI)) (ci := 7) (v := .ref (q 20)) (C := RX7) (T := TX7) (N := 26) hx hb hts inX7 hown hK hP 0 rfl rfl 24 (by decide) (hts _ fl_X7_67) (fun _ h9 => h9) rfl dX7_isTelling_28 ?_
      refine lv_iload_n hx hb dX7_isTelling_31 rfl (lv_at hl 1 rfl) ?_
      refine va_iald hx hb hK hP 20 0 rfl rfl (vp_in_mono hR hI.2.2.1.2) dX7_isTelling_32 ?_
      refine lv_iload hx hb dX7_isTelling_33 (lv_at hl 4 rfl) ?_
      refine xc_i (va_runV (As := [.int (σ.1 13 p1.toNatClampNeg), .int (σ.1 14 p1.toNatClampNeg), .int p4]) (rest := []) ⟨hx, hb, hml, hown, hts⟩ (c_X7_isKnown l dC dI cI cJ q σ (σ.1 13 p1.toNatClampNeg) (σ.1 14 p1.toNatClampNeg) p4 (hI.2.2.2.2.1 _ (vp_in_lt hR))) (cwV 3 hts (gV ml_X7_116 im_X7_isKnown se_X7_isKnown in_X7 co_X7_isKnown) rfl rfl rfl (by decide +kernel) ⟨Nat.le_of_ble_eq_true rfl, Nat.le_of_ble_eq_true rfl⟩) (preV hK hP (pos := 0) (ci := 7) rfl rfl) rfl rfl hl.1 rfl (lv_room (Nat.le_of_ble_eq_true rfl)) dX7_isTelling_35 ⟨Nat.zero_le _, Nat.zero_le _⟩) ?_
      refine lv_if_eq (tgt := 45) hx hb dX7_isTelling_38 (by decide) (fun c_38 => ?_) (fun c_38 => ?_)
      · refine lv_iconst (v := 0) hx hb dX7_isTelling_45 (by decide) ?_
        exact W.zret (v := 0) hx hb hr narrow_b0 (fun t ht hW => ⟨_, rfl, (by rw [fX7_isTelling, if_pos c_7, if_pos c_17, if_pos c_38]), ht⟩) (fun _ h => absurd h List.not_mem_nil) dX7_isTelling_46
      · refine lv_iconst (v := 1) hx hb dX7_isTelling_41 (by decide) ?_
        refine lv_goto (tgt := 46) hx hb dX7_isTelling_42 (by decide) ?_
        exact W.zret (v := 1) hx hb hr narrow_b1 (fun t ht hW => ⟨_, rfl, (by rw [fX7_isTelling, if_pos c_7, if_pos c_17, if_neg c_38]), ht⟩) (fun _ h => absurd h List.not_mem_nil) dX7_isTelling_46

def flX7_mark_48 (σ : St) (p1 : Int32) (p2 : Int32) (p3 : Int32) (p4 : Int32) : Nat → Nat → Int32 × St
  | 0, i => (1, (sV (sI (sI (sI (sI (sI (sI σ 9 ((σ.2.1 3).toNatClampNeg) p1) 10 ((σ.2.1 3).toNatClampNeg) p2) 11 ((σ.2.1 3).toNatClampNeg) p3) 12 ((σ.2.1 3).toNatClampNeg) p4) 13 ((σ.2.1 3).toNatClampNeg) (σ.2.1 0)) 14 ((σ.2.1 3).toNatClampNeg) (σ.2.1 4)) 3 ((σ.2.1 3) + 1)))
  | k + 1, i => (if p2 = 0 then (if (fX7_isTelling σ (nI i) p1 0 (σ.2.1 0)) = 0 then flX7_mark_48 σ p1 p2 p3 p4 k (i + 1)  else (0, σ)) else flX7_mark_48 σ p1 p2 p3 p4 k (i + 1) )
def fX7_mark (σ : St) (p1 : Int32) (p2 : Int32) (p3 : Int32) (p4 : Int32) : Int32 × St :=
  (if (fX7_isIn σ p1 0 ((σ.2.1 1) - 1)) = 0 then (0, σ) else (if (fX7_isIn σ p2 0 3) = 0 then (0, σ) else (if (fX7_isIn σ p3 0 2000) = 0 then (0, σ) else (if (fX7_isIn σ p4 0 99) = 0 then (0, σ) else (if (σ.2.1 3) = 300 then (0, σ) else flX7_mark_48 σ p1 p2 p3 p4 ((σ.2.1 3).toNatClampNeg) 0 )))))
set_option maxHeartbeats 4000000 in
set_option maxRecDepth 100000 in
theorem c_X7_mark (l : Launch) (dC : Nat → ClassId) (dI : Nat → Nat → Nat) (cI cJ : ClassId) (q : Nat → Nat) (σ : St) (p1 : Int32) (p2 : Int32) (p3 : Int32) (p4 : Int32) (hd : dT 22 q) (hI : IB σ) : Met l yX7_mark (.code yX7_mark cX7_mark 6 (some .boolean) :: tb) { frames := 2, cells := 0, slots := 0, locals := 47 } (Pu (dC, dI) (tyC cI cJ) (wM cI cJ q σ) [.ref (q 0), .int p1, .int p2, .int p3, .int p4]) (xw_Q (some (.int (fX7_mark σ p1 p2 p3 p4).1)) (dC, dI) (wM cI cJ q (fX7_mark σ p1 p2 p3 p4).2) (aT 22 q)) 0 0 (aT 22 q) := by
  refine Met.ofW (cc := cX7_mark) (maxL := 6) (ret := (some .boolean)) (by decide) rfl ?_
  intro p e s m args below meth c s₁ B hml hv
  obtain ⟨rfl, hP, hK⟩ := hv
  have hx := B.exec
  have hb := B.bytes
  have hr := B.returns
  have hts0 := atoms_spec (ws := .code yX7_mark cX7_mark 6 (some .boolean) :: tb) B.pre
  have hts : ∀ w ∈ tb, w.before _ s = true := fun w hw => hts0 w (List.mem_cons_of_mem _ hw)
  have hown : s.vm.findClass RX7 = some m.cls := findClass_of_methodNamed B.named
  have hlocks := B.notSynchronized
  have hl := lv_entry ([.ref (q 0), .int p1, .int p2, .int p3, .int p4]) (n := 6) (Nat.le_of_ble_eq_true rfl)
  rw [lg_entry_eq]
  generalize (lg_sl ([.ref (q 0), .int p1, .int p2, .int p3, .int p4]) ++ List.replicate (6 - (lg_sl ([.ref (q 0), .int p1, .int p2, .int p3, .int p4])).length) Slot.unset).toArray = ls at hl ⊢
  have hl : lv_has ls 6 [(0, .ref (q 0)), (1, .int p1), (2, .int p2), (3, .int p3), (4, .int p4)] := hl
  obtain ⟨H, hHe⟩ : ∃ H, s.heap = H := ⟨_, rfl⟩
  rw [hHe] at hP ⊢
  obtain ⟨locs, hLe⟩ : ∃ x : List Loc, ([] : List Loc) = x := ⟨_, rfl⟩
  rw [hLe]
  have hS : va_S (aT 22 q) s.heap H locs := by rw [← hHe, ← hLe]; exact va_S.rf
  refine lv_aload_n hx hb dX7_mark_0 rfl (lv_at hl 0 rfl) ?_
  refine lv_iload_n hx hb dX7_mark_1 rfl (lv_at hl 1 rfl) ?_
  refine xc_i (va_runV (As := [.int p1]) (rest := []) ⟨hx, hb, hml, hown, hts⟩ (c_X7_isThing l dC dI cI cJ q σ p1) (cwV 1 hts (gV ml_X7_105 im_X7_isThing se_X7_isThing in_X7 co_X7_isThing) rfl rfl rfl (by decide +kernel) ⟨Nat.le_of_ble_eq_true rfl, Nat.le_of_ble_eq_true rfl⟩) (preV hK hP (pos := 0) (ci := 7) rfl rfl) rfl rfl hl.1 rfl (lv_room (Nat.le_of_ble_eq_true rfl)) dX7_mark_2 ⟨Nat.zero_le _, Nat.zero_le _⟩) ?_
  refine lv_if_eq (tgt := 43) hx hb dX7_mark_5 (by decide) (fun c_5 => ?_) (fun c_5 => ?_)
  · refine lv_iconst (v := 0) hx hb dX7_mark_43 (by decide) ?_
    have hF : fX7_mark σ p1 p2 p3 p4 = (0, σ) := by rw [fX7_mark, if_pos c_5]
    have hP9 : va_P (dC, dI) vwCl (wM cI cJ q (fX7_mark σ p1 p2 p3 p4).2) H := by rw [hF]; exact hP
    exact W.zret (v := 0) hx hb hr narrow_b0 (fun t ht hW => ⟨(by rw [hF]), by rw [ht]; exact hP9, hS.F ht⟩) hS.2.2 dX7_mark_44
  · refine lv_iload_n hx hb dX7_mark_8 rfl (lv_at hl 2 rfl) ?_
    refine xc_i (va_runS (As := [.int p2]) (rest := []) ⟨hx, hb, hml, hown, hts⟩ (c_X7_isMark l dC dI cI cJ q σ p2) (va_cwS 1 hts (gS ml_X7_119 st_X7_isMark in_X7 co_X7_isMark) rfl rfl rfl (by decide +kernel) ⟨Nat.le_of_ble_eq_true rfl, Nat.le_of_ble_eq_true rfl⟩) (preS hK hP) rfl rfl hl.1 rfl (lv_room (Nat.le_of_ble_eq_true rfl)) dX7_mark_9 ⟨Nat.zero_le _, Nat.zero_le _⟩) ?_
    refine lv_if_eq (tgt := 43) hx hb dX7_mark_12 (by decide) (fun c_12 => ?_) (fun c_12 => ?_)
    · refine lv_iconst (v := 0) hx hb dX7_mark_43 (by decide) ?_
      have hF : fX7_mark σ p1 p2 p3 p4 = (0, σ) := by rw [fX7_mark, if_neg c_5, if_pos c_12]
      have hP9 : va_P (dC, dI) vwCl (wM cI cJ q (fX7_mark σ p1 p2 p3 p4).2) H := by rw [hF]; exact hP
      exact W.zret (v := 0) hx hb hr narrow_b0 (fun t ht hW => ⟨(by rw [hF]), by rw [ht]; exact hP9, hS.F ht⟩) hS.2.2 dX7_mark_44
    · refine lv_iload_n hx hb dX7_mark_15 rfl (lv_at hl 3 rfl) ?_
      refine xc_i (va_runS (As := [.int p3]) (rest := []) ⟨hx, hb, hml, hown, hts⟩ (c_X7_isDay l dC dI cI cJ q σ p3) (va_cwS 1 hts (gS ml_X7_95 st_X7_isDay in_X7 co_X7_isDay) rfl rfl rfl (by decide +kernel) ⟨Nat.le_of_ble_eq_true rfl, Nat.le_of_ble_eq_true rfl⟩) (preS hK hP) rfl rfl hl.1 rfl (lv_room (Nat.le_of_ble_eq_true rfl)) dX7_mark_16 ⟨Nat.zero_le _, Nat.zero_le _⟩) ?_
      refine lv_if_eq (tgt := 43) hx hb dX7_mark_19 (by decide) (fun c_19 => ?_) (fun c_19 => ?_)
      · refine lv_iconst (v := 0) hx hb dX7_mark_43 (by decide) ?_
        have hF : fX7_mark σ p1 p2 p3 p4 = (0, σ) := by rw [fX7_mark, if_neg c_5, if_neg c_12, if_pos c_19]
        have hP9 : va_P (dC, dI) vwCl (wM cI cJ q (fX7_mark σ p1 p2 p3 p4).2) H := by rw [hF]; exact hP
        exact W.zret (v := 0) hx hb hr narrow_b0 (fun t ht hW => ⟨(by rw [hF]), by rw [ht]; exact hP9, hS.F ht⟩) hS.2.2 dX7_mark_44
      · refine lv_iload hx hb dX7_mark_22 (lv_at hl 4 rfl) ?_
        refine lv_iconst (v := 0) hx hb dX7_mark_24 (by decide) ?_
        refine lv_bipush (v := 99) hx hb dX7_mark_25 (by decide) ?_
        refine xc_i (va_runS (As := [.int p4, .int 0, .int 99]) (rest := []) ⟨hx, hb, hml, hown, hts⟩ (c_X7_isIn l dC dI cI cJ q σ p4 0 99) (va_cwS 3 hts (gS ml_X7_73 st_X7_isIn in_X7 co_X7_isIn) rfl rfl rfl (by decide +kernel) ⟨Nat.le_of_ble_eq_true rfl, Nat.le_of_ble_eq_true rfl⟩) (preS hK hP) rfl rfl hl.1 rfl (lv_room (Nat.le_of_ble_eq_true rfl)) dX7_mark_27 ⟨Nat.zero_le _, Nat.zero_le _⟩) ?_
        refine lv_if_eq (tgt := 43) hx hb dX7_mark_30 (by decide) (fun c_30 => ?_) (fun c_30 => ?_)
        · refine lv_iconst (v := 0) hx hb dX7_mark_43 (by decide) ?_
          have hF : fX7_mark σ p1 p2 p3 p4 = (0, σ) := by rw [fX7_mark, if_neg c_5, if_neg c_12, if_neg c_19, if_pos c_30]
          have hP9 : va_P (dC, dI) vwCl (wM cI cJ q (fX7_mark σ p1 p2 p3 p4).2) H := by rw [hF]; exact hP
          exact W.zret (v := 0) hx hb hr narrow_b0 (fun t ht hW => ⟨(by rw [hF]), by rw [ht]; exact hP9, hS.F ht⟩) hS.2.2 dX7_mark_44
        · refine lv_aload_n hx hb dX7_mark_33 rfl (lv_at hl 0 rfl) ?_
          refine va_get (D := (dC, dI)) (ci := 7) (v := .int (σ.2.1 3)) (C := RX7) (T := TX7) (N := 26) hx hb hts inX7 hown hK hP 0 rfl rfl 3 (by decide) (hts _ fl_X7_122) (fun _ h9 => h9) rfl dX7_mark_34 ?_
          refine lv_sipush (v := 300) hx hb dX7_mark_37 (by decide) ?_
          refine lv_icmp_ne (tgt := 45) hx hb dX7_mark_40 (by decide) (fun c_40 => ?_) (fun c_40 => ?_)
          · refine lv_iconst (v := 0) hx hb dX7_mark_45 (by decide) ?_
            refine lv_istore (lv' := [(5, .int 0), (0, .ref (q 0)), (1, .int p1), (2, .int p2), (3, .int p3), (4, .int p4)]) hx hb dX7_mark_46 hl (by decide) rfl (fun ls hl => ?_)
            have hz : szI (σ.2.1 3) 300 := hI.2.2.1
            have hz2 := hz.2
            have loop_48 : ∀ (k i : Nat), i + k = (σ.2.1 3).toNatClampNeg → fX7_mark σ p1 p2 p3 p4 = flX7_mark_48 σ p1 p2 p3 p4 k i  → ∀ (ls : Array Slot), lv_has ls 6 [(0, .ref (q 0)), (1, .int p1), (2, .int p2), (3, .int p3), (4, .int p4), (5, .int (nI i))] → W p l e (headSpec (.code yX7_mark cX7_mark 6 (some .boolean) :: tb) { frames := 2, cells := 0, slots := 0, locals := 47 }).room s m (List.toArray [.ref (q 0), .int p1, .int p2, .int p3, .int p4]) below meth c H locs 0 0 (MQ below (xw_Q (some (.int (fX7_mark σ p1 p2 p3 p4).1)) (dC, dI) (wM cI cJ q (fX7_mark σ p1 p2 p3 p4).2) (aT 22 q)) (List.toArray [.ref (q 0), .int p1, .int p2, .int p3, .int p4]) s 0 0 (aT 22 q)) (F0 m 48 ls []) := by
              intro k
              induction k with
              | zero =>
                intro i  hik hE ls hl
                refine lv_iload hx hb dX7_mark_48 (lv_at hl 5 rfl) ?_
                refine lv_aload_n hx hb dX7_mark_50 rfl (lv_at hl 0 rfl) ?_
                refine va_get (D := (dC, dI)) (ci := 7) (v := .int (σ.2.1 3)) (C := RX7) (T := TX7) (N := 26) hx hb hts inX7 hown hK hP 0 rfl rfl 3 (by decide) (hts _ fl_X7_122) (fun _ h9 => h9) rfl dX7_mark_51 ?_
                refine lv_icmp_ge (tgt := 84) hx hb dX7_mark_54 (by decide) (fun c_54 => ?_) (fun c_54 => ?_)
                · refine lv_aload_n hx hb dX7_mark_84 rfl (lv_at hl 0 rfl) ?_
                  refine va_get (D := (dC, dI)) (ci := 7) (v := .ref (q 15)) (C := RX7) (T := TX7) (N := 26) hx hb hts inX7 hown hK hP 0 rfl rfl 19 (by decide) (hts _ fl_X7_52) (fun _ h9 => h9) rfl dX7_mark_85 ?_
                  refine lv_aload_n hx hb dX7_mark_88 rfl (lv_at hl 0 rfl) ?_
                  refine va_get (D := (dC, dI)) (ci := 7) (v := .int (σ.2.1 3)) (C := RX7) (T := TX7) (N := 26) hx hb hts inX7 hown hK hP 0 rfl rfl 3 (by decide) (hts _ fl_X7_122) (fun _ h9 => h9) rfl dX7_mark_89 ?_
                  refine lv_iload_n hx hb dX7_mark_92 rfl (lv_at hl 1 rfl) ?_
                  refine va_iast hx hb hK hP (wM_D hd) hS 15 0 rfl rfl (sz_ne hI.2.2.1 (by decide) c_40) dX7_mark_93 (fun H locs hP _ hS => ?_)
                  have hP : va_P (dC, dI) vwCl (wM cI cJ q (sI σ 9 ((σ.2.1 3).toNatClampNeg) p1)) H := hP
                  refine lv_aload_n hx hb dX7_mark_94 rfl (lv_at hl 0 rfl) ?_
                  refine va_get (D := (dC, dI)) (ci := 7) (v := .ref (q 16)) (C := RX7) (T := TX7) (N := 26) hx hb hts inX7 hown hK hP 0 rfl rfl 20 (by decide) (hts _ fl_X7_55) (fun _ h9 => h9) rfl dX7_mark_95 ?_
                  refine lv_aload_n hx hb dX7_mark_98 rfl (lv_at hl 0 rfl) ?_
                  refine va_get (D := (dC, dI)) (ci := 7) (v := .int (σ.2.1 3)) (C := RX7) (T := TX7) (N := 26) hx hb hts inX7 hown hK hP 0 rfl rfl 3 (by decide) (hts _ fl_X7_122) (fun _ h9 => h9) rfl dX7_mark_99 ?_
                  refine lv_iload_n hx hb dX7_mark_102 rfl (lv_at hl 2 rfl) ?_
                  refine va_iast hx hb hK hP (wM_D hd) hS 16 0 rfl rfl (sz_ne hI.2.2.1 (by decide) c_40) dX7_mark_103 (fun H locs hP _ hS => ?_)
                  have hP : va_P (dC, dI) vwCl (wM cI cJ q (sI (sI σ 9 ((σ.2.1 3).toNatClampNeg) p1) 10 ((σ.2.1 3).toNatClampNeg) p2)) H := hP
                  refine lv_aload_n hx hb dX7_mark_104 rfl (lv_at hl 0 rfl) ?_
                  refine va_get (D := (dC, dI)) (ci := 7) (v := .ref (q 17)) (C := RX7) (T := TX7) (N := 26) hx hb hts inX7 hown hK hP 0 rfl rfl 21 (by decide) (hts _ fl_X7_58) (fun _ h9 => h9) rfl dX7_mark_105 ?_
                  refine lv_aload_n hx hb dX7_mark_108 rfl (lv_at hl 0 rfl) ?_
                  refine va_get (D := (dC, dI)) (ci := 7) (v := .int (σ.2.1 3)) (C := RX7) (T := TX7) (N := 26) hx hb hts inX7 hown hK hP 0 rfl rfl 3 (by decide) (hts _ fl_X7_122) (fun _ h9 => h9) rfl dX7_mark_109 ?_
                  refine lv_iload_n hx hb dX7_mark_112 rfl (lv_at hl 3 rfl) ?_
                  refine va_iast hx hb hK hP (wM_D hd) hS 17 0 rfl rfl (sz_ne hI.2.2.1 (by decide) c_40) dX7_mark_113 (fun H locs hP _ hS => ?_)
                  have hP : va_P (dC, dI) vwCl (wM cI cJ q (sI (sI (sI σ 9 ((σ.2.1 3).toNatClampNeg) p1) 10 ((σ.2.1 3).toNatClampNeg) p2) 11 ((σ.2.1 3).toNatClampNeg) p3)) H := hP
                  refine lv_aload_n hx hb dX7_mark_114 rfl (lv_at hl 0 rfl) ?_
                  refine va_get (D := (dC, dI)) (ci := 7) (v := .ref (q 18)) (C := RX7) (T := TX7) (N := 26) hx hb hts inX7 hown hK hP 0 rfl rfl 22 (by decide) (hts _ fl_X7_61) (fun _ h9 => h9) rfl dX7_mark_115 ?_
                  refine lv_aload_n hx hb dX7_mark_118 rfl (lv_at hl 0 rfl) ?_
                  refine va_get (D := (dC, dI)) (ci := 7) (v := .int (σ.2.1 3)) (C := RX7) (T := TX7) (N := 26) hx hb hts inX7 hown hK hP 0 rfl rfl 3 (by decide) (hts _ fl_X7_122) (fun _ h9 => h9) rfl dX7_mark_119 ?_
                  refine lv_iload hx hb dX7_mark_122 (lv_at hl 4 rfl) ?_
                  refine va_iast hx hb hK hP (wM_D hd) hS 18 0 rfl rfl (sz_ne hI.2.2.1 (by decide) c_40) dX7_mark_124 (fun H locs hP _ hS => ?_)
                  have hP : va_P (dC, dI) vwCl (wM cI cJ q (sI (sI (sI (sI σ 9 ((σ.2.1 3).toNatClampNeg) p1) 10 ((σ.2.1 3).toNatClampNeg) p2) 11 ((σ.2.1 3).toNatClampNeg) p3) 12 ((σ.2.1 3).toNatClampNeg) p4)) H := hP
                  refine lv_aload_n hx hb dX7_mark_125 rfl (lv_at hl 0 rfl) ?_
                  refine va_get (D := (dC, dI)) (ci := 7) (v := .ref (q 19)) (C := RX7) (T := TX7) (N := 26) hx hb hts inX7 hown hK hP 0 rfl rfl 23 (by decide) (hts _ fl_X7_64) (fun _ h9 => h9) rfl dX7_mark_126 ?_
                  refine lv_aload_n hx hb dX7_mark_129 rfl (lv_at hl 0 rfl) ?_
                  refine va_get (D := (dC, dI)) (ci := 7) (v := .int (σ.2.1 3)) (C := RX7) (T := TX7) (N := 26) hx hb hts inX7 hown hK hP 0 rfl rfl 3 (by decide) (hts _ fl_X7_122) (fun _ h9 => h9) rfl dX7_mark_130 ?_
                  refine lv_aload_n hx hb dX7_mark_133 rfl (lv_at hl 0 rfl) ?_
                  refine va_get (D := (dC, dI)) (ci := 7) (v := .int (σ.2.1 0)) (C := RX7) (T := TX7) (N := 26) hx hb hts inX7 hown hK hP 0 rfl rfl 0 (by decide) (hts _ fl_X7_81) (fun _ h9 => h9) rfl dX7_mark_134 ?_
                  refine va_iast hx hb hK hP (wM_D hd) hS 19 0 rfl rfl (sz_ne hI.2.2.1 (by decide) c_40) dX7_mark_137 (fun H locs hP _ hS => ?_)
                  have hP : va_P (dC, dI) vwCl (wM cI cJ q (sI (sI (sI (sI (sI σ 9 ((σ.2.1 3).toNatClampNeg) p1) 10 ((σ.2.1 3).toNatClampNeg) p2) 11 ((σ.2.1 3).toNatClampNeg) p3) 12 ((σ.2.1 3).toNatClampNeg) p4) 13 ((σ.2.1 3).toNatClampNeg) (σ.2.1 0))) H := hP
                  refine lv_aload_n hx hb dX7_mark_138 rfl (lv_at hl 0 rfl) ?_
                  refine va_get (D := (dC, dI)) (ci := 7) (v := .ref (q 20)) (C := RX7) (T := TX7) (N := 26) hx hb hts inX7 hown hK hP 0 rfl rfl 24 (by decide) (hts _ fl_X7_67) (fun _ h9 => h9) rfl dX7_mark_139 ?_
                  refine lv_aload_n hx hb dX7_mark_142 rfl (lv_at hl 0 rfl) ?_
                  refine va_get (D := (dC, dI)) (ci := 7) (v := .int (σ.2.1 3)) (C := RX7) (T := TX7) (N := 26) hx hb hts inX7 hown hK hP 0 rfl rfl 3 (by decide) (hts _ fl_X7_122) (fun _ h9 => h9) rfl dX7_mark_143 ?_
                  refine lv_aload_n hx hb dX7_mark_146 rfl (lv_at hl 0 rfl) ?_
                  refine va_get (D := (dC, dI)) (ci := 7) (v := .int (σ.2.1 4)) (C := RX7) (T := TX7) (N := 26) hx hb hts inX7 hown hK hP 0 rfl rfl 4 (by decide) (hts _ fl_X7_128) (fun _ h9 => h9) rfl dX7_mark_147 ?_
                  refine va_iast hx hb hK hP (wM_D hd) hS 20 0 rfl rfl (sz_ne hI.2.2.1 (by decide) c_40) dX7_mark_150 (fun H locs hP _ hS => ?_)
                  have hP : va_P (dC, dI) vwCl (wM cI cJ q (sI (sI (sI (sI (sI (sI σ 9 ((σ.2.1 3).toNatClampNeg) p1) 10 ((σ.2.1 3).toNatClampNeg) p2) 11 ((σ.2.1 3).toNatClampNeg) p3) 12 ((σ.2.1 3).toNatClampNeg) p4) 13 ((σ.2.1 3).toNatClampNeg) (σ.2.1 0)) 14 ((σ.2.1 3).toNatClampNeg) (σ.2.1 4))) H := hP
                  refine lv_aload_n hx hb dX7_mark_151 rfl (lv_at hl 0 rfl) ?_
                  refine lv_dup hx hb dX7_mark_152 rfl ?_
                  refine va_get (D := (dC, dI)) (ci := 7) (v := .int (σ.2.1 3)) (C := RX7) (T := TX7) (N := 26) hx hb hts inX7 hown hK hP 0 rfl rfl 3 (by decide) (hts _ fl_X7_122) (fun _ h9 => h9) rfl dX7_mark_153 ?_
                  refine lv_iconst (v := 1) hx hb dX7_mark_156 (by decide) ?_
                  refine lv_iadd hx hb dX7_mark_157 ?_
                  refine va_put (D := (dC, dI)) (ci := 7) (v := .int ((σ.2.1 3) + 1)) (ty := .int) (C := RX7) (T := TX7) (N := 26) hx hb hts inX7 tyX7 tyX7_ok nmX7 hown hK hP (wM_D hd) hS 0 rfl rfl 3 (by decide) (hts _ fl_X7_122) (fun _ h9 => h9) rfl (by decide +kernel) rfl rfl (Nat.le_of_ble_eq_true rfl) dX7_mark_158 (fun H locs hP _ hS => ?_)
                  have hP : va_P (dC, dI) vwCl (wM cI cJ q (sV (sI (sI (sI (sI (sI (sI σ 9 ((σ.2.1 3).toNatClampNeg) p1) 10 ((σ.2.1 3).toNatClampNeg) p2) 11 ((σ.2.1 3).toNatClampNeg) p3) 12 ((σ.2.1 3).toNatClampNeg) p4) 13 ((σ.2.1 3).toNatClampNeg) (σ.2.1 0)) 14 ((σ.2.1 3).toNatClampNeg) (σ.2.1 4)) 3 ((σ.2.1 3) + 1))) H := hP
                  refine lv_iconst (v := 1) hx hb dX7_mark_161 (by decide) ?_
                  have hF : fX7_mark σ p1 p2 p3 p4 = (1, (sV (sI (sI (sI (sI (sI (sI σ 9 ((σ.2.1 3).toNatClampNeg) p1) 10 ((σ.2.1 3).toNatClampNeg) p2) 11 ((σ.2.1 3).toNatClampNeg) p3) 12 ((σ.2.1 3).toNatClampNeg) p4) 13 ((σ.2.1 3).toNatClampNeg) (σ.2.1 0)) 14 ((σ.2.1 3).toNatClampNeg) (σ.2.1 4)) 3 ((σ.2.1 3) + 1))) := by rw [hE, flX7_mark_48]
                  have hP9 : va_P (dC, dI) vwCl (wM cI cJ q (fX7_mark σ p1 p2 p3 p4).2) H := by rw [hF]; exact hP
                  exact W.zret (v := 1) hx hb hr narrow_b1 (fun t ht hW => ⟨(by rw [hF]), by rw [ht]; exact hP9, hS.F ht⟩) hS.2.2 dX7_mark_162
                · exact absurd (by rw [hz.1]; exact nI_le (by omega) (by omega)) c_54
              | succ k ih =>
                intro i  hik hE ls hl
                refine lv_iload hx hb dX7_mark_48 (lv_at hl 5 rfl) ?_
                refine lv_aload_n hx hb dX7_mark_50 rfl (lv_at hl 0 rfl) ?_
                refine va_get (D := (dC, dI)) (ci := 7) (v := .int (σ.2.1 3)) (C := RX7) (T := TX7) (N := 26) hx hb hts inX7 hown hK hP 0 rfl rfl 3 (by decide) (hts _ fl_X7_122) (fun _ h9 => h9) rfl dX7_mark_51 ?_
                refine lv_icmp_ge (tgt := 84) hx hb dX7_mark_54 (by decide) (fun c_54 => ?_) (fun c_54 => ?_)
                · exact absurd c_54 (by rw [hz.1]; exact nI_ge (by omega) (by omega))
                · refine lv_iload_n hx hb dX7_mark_57 rfl (lv_at hl 2 rfl) ?_
                  refine lv_if_ne (tgt := 78) hx hb dX7_mark_58 (by decide) (fun c_58 => ?_) (fun c_58 => ?_)
                  · refine lv_iinc (v := nI (i + 1)) (lv' := [(5, .int (nI (i + 1))), (0, .ref (q 0)), (1, .int p1), (2, .int p2), (3, .int p3), (4, .int p4)]) hx hb dX7_mark_78 hl (k := 5) rfl (nI_1 i) (by decide) rfl (fun ls hl => ?_)
                    refine lv_goto (tgt := 48) hx hb dX7_mark_81 (by decide) ?_
                    exact ih (i + 1)  (by omega) (by rw [hE, flX7_mark_48, if_neg c_58]) ls (lv_sub hl [1, 2, 3, 4, 5, 0] rfl)
                  · refine lv_aload_n hx hb dX7_mark_61 rfl (lv_at hl 0 rfl) ?_
                    refine lv_iload hx hb dX7_mark_62 (lv_at hl 5 rfl) ?_
                    refine lv_iload_n hx hb dX7_mark_64 rfl (lv_at hl 1 rfl) ?_
                    refine lv_iconst (v := 0) hx hb dX7_mark_65 (by decide) ?_
                    refine lv_aload_n hx hb dX7_mark_66 rfl (lv_at hl 0 rfl) ?_
                    refine va_get (D := (dC, dI)) (ci := 7) (v := .int (σ.2.1 0)) (C := RX7) (T := TX7) (N := 26) hx hb hts inX7 hown hK hP 0 rfl rfl 0 (by decide) (hts _ fl_X7_81) (fun _ h9 => h9) rfl dX7_mark_67 ?_
                    refine xc_i (va_runV (As := [.int (nI i), .int p1, .int 0, .int (σ.2.1 0)]) (rest := []) ⟨hx, hb, hml, hown, hts⟩ (c_X7_isTelling l dC dI cI cJ q σ (nI i) p1 0 (σ.2.1 0) (by assumption) (vp_in_nI (by omega) (by omega))) (cwV 4 hts (gV ml_X7_125 im_X7_isTelling se_X7_isTelling in_X7 co_X7_isTelling) rfl rfl rfl (by decide +kernel) ⟨Nat.le_of_ble_eq_true rfl, Nat.le_of_ble_eq_true rfl⟩) (preV hK hP (pos := 0) (ci := 7) rfl rfl) rfl rfl hl.1 rfl (lv_room (Nat.le_of_ble_eq_true rfl)) dX7_mark_70 ⟨Nat.zero_le _, Nat.zero_le _⟩) ?_
                    refine lv_if_eq (tgt := 78) hx hb dX7_mark_73 (by decide) (fun c_73 => ?_) (fun c_73 => ?_)
                    · refine lv_iinc (v := nI (i + 1)) (lv' := [(5, .int (nI (i + 1))), (0, .ref (q 0)), (1, .int p1), (2, .int p2), (3, .int p3), (4, .int p4)]) hx hb dX7_mark_78 hl (k := 5) rfl (nI_1 i) (by decide) rfl (fun ls hl => ?_)
                      refine lv_goto (tgt := 48) hx hb dX7_mark_81 (by decide) ?_
                      exact ih (i + 1)  (by omega) (by rw [hE, flX7_mark_48, if_pos c_58, if_pos c_73]) ls (lv_sub hl [1, 2, 3, 4, 5, 0] rfl)
                    · refine lv_iconst (v := 0) hx hb dX7_mark_76 (by decide) ?_
                      have hF : fX7_mark σ p1 p2 p3 p4 = (0, σ) := by rw [hE, flX7_mark_48, if_pos c_58, if_neg c_73]
                      have hP9 : va_P (dC, dI) vwCl (wM cI cJ q (fX7_mark σ p1 p2 p3 p4).2) H := by rw [hF]; exact hP
                      exact W.zret (v := 0) hx hb hr narrow_b0 (fun t ht hW => ⟨(by rw [hF]), by rw [ht]; exact hP9, hS.F ht⟩) hS.2.2 dX7_mark_77
            exact loop_48 ((σ.2.1 3).toNatClampNeg) 0  (by rw [Nat.zero_add]) (by rw [fX7_mark, if_neg c_5, if_neg c_12, if_neg c_19, if_neg c_30, if_neg c_40]) ls (lv_sub hl [1, 2, 3, 4, 5, 0] rfl)
          · refine lv_iconst (v := 0) hx hb dX7_mark_43 (by decide) ?_
            have hF : fX7_mark σ p1 p2 p3 p4 = (0, σ) := by rw [fX7_mark, if_neg c_5, if_neg c_12, if_neg c_19, if_neg c_30, if_pos c_40]
            have hP9 : va_P (dC, dI) vwCl (wM cI cJ q (fX7_mark σ p1 p2 p3 p4).2) H := by rw [hF]; exact hP
            exact W.zret (v := 0) hx hb hr narrow_b0 (fun t ht hW => ⟨(by rw [hF]), by rw [ht]; exact hP9, hS.F ht⟩) hS.2.2 dX7_mark_44

def flX7_valueOf_6 (σ : St) (p1 : Int32) (p2 : Int32) (p3 : Int32) (p4 : Int32) : Nat → Nat → Int32 → Int32
  | 0, i, best => (if best = (-1) then 100 else σ.1 12 best.toNatClampNeg)
  | k + 1, i, best => (if (fX7_isTelling σ (nI i) p1 p2 p4) = 0 then flX7_valueOf_6 σ p1 p2 p3 p4 k (i + 1) best else (if p2 ≤ 1 then (if best = (-1) then flX7_valueOf_6 σ p1 p2 p3 p4 k (i + 1) (nI i) else (if p2 < 2 then flX7_valueOf_6 σ p1 p2 p3 p4 k (i + 1) (nI i) else (if (σ.1 11 i) < (σ.1 11 best.toNatClampNeg) then flX7_valueOf_6 σ p1 p2 p3 p4 k (i + 1) best else flX7_valueOf_6 σ p1 p2 p3 p4 k (i + 1) (nI i)))) else (if (σ.1 11 i) ≤ p3 then (if best = (-1) then flX7_valueOf_6 σ p1 p2 p3 p4 k (i + 1) (nI i) else (if p2 < 2 then flX7_valueOf_6 σ p1 p2 p3 p4 k (i + 1) (nI i) else (if (σ.1 11 i) < (σ.1 11 best.toNatClampNeg) then flX7_valueOf_6 σ p1 p2 p3 p4 k (i + 1) best else flX7_valueOf_6 σ p1 p2 p3 p4 k (i + 1) (nI i)))) else flX7_valueOf_6 σ p1 p2 p3 p4 k (i + 1) best)))
def fX7_valueOf (σ : St) (p1 : Int32) (p2 : Int32) (p3 : Int32) (p4 : Int32) : Int32 :=
  flX7_valueOf_6 σ p1 p2 p3 p4 ((σ.2.1 3).toNatClampNeg) 0 (-1)
set_option maxHeartbeats 4000000 in
set_option maxRecDepth 100000 in
theorem c_X7_valueOf (l : Launch) (dC : Nat → ClassId) (dI : Nat → Nat → Nat) (cI cJ : ClassId) (q : Nat → Nat) (σ : St) (p1 : Int32) (p2 : Int32) (p3 : Int32) (p4 : Int32) (hI : IB σ) : Met l yX7_valueOf (.code yX7_valueOf cX7_valueOf 7 (some .int) :: tb) { frames := 2, cells := 0, slots := 0, locals := 47 } (Pu (dC, dI) (tyC cI cJ) (wM cI cJ q σ) [.ref (q 0), .int p1, .int p2, .int p3, .int p4]) (vp_Si (fun r => r = fX7_valueOf σ p1 p2 p3 p4)) 0 0 (fun _ => False) := by
  refine Met.ofW (cc := cX7_valueOf) (maxL := 7) (ret := (some .int)) (by decide) rfl ?_
  intro p e s m args below meth c s₁ B hml hv
  obtain ⟨rfl, hP, hK⟩ := hv
  have hx := B.exec
  have hb := B.bytes
  have hr := B.returns
  have hts0 := atoms_spec (ws := .code yX7_valueOf cX7_valueOf 7 (some .int) :: tb) B.pre
  have hts : ∀ w ∈ tb, w.before _ s = true := fun w hw => hts0 w (List.mem_cons_of_mem _ hw)
  have hown : s.vm.findClass RX7 = some m.cls := findClass_of_methodNamed B.named
  have hlocks := B.notSynchronized
  have hl := lv_entry ([.ref (q 0), .int p1, .int p2, .int p3, .int p4]) (n := 7) (Nat.le_of_ble_eq_true rfl)
  rw [lg_entry_eq]
  generalize (lg_sl ([.ref (q 0), .int p1, .int p2, .int p3, .int p4]) ++ List.replicate (7 - (lg_sl ([.ref (q 0), .int p1, .int p2, .int p3, .int p4])).length) Slot.unset).toArray = ls at hl ⊢
  have hl : lv_has ls 7 [(0, .ref (q 0)), (1, .int p1), (2, .int p2), (3, .int p3), (4, .int p4)] := hl
  refine lv_iconst (v := (-1)) hx hb dX7_valueOf_0 (by decide) ?_
  refine lv_istore (lv' := [(5, .int (-1)), (0, .ref (q 0)), (1, .int p1), (2, .int p2), (3, .int p3), (4, .int p4)]) hx hb dX7_valueOf_1 hl (by decide) rfl (fun ls hl => ?_)
  refine lv_iconst (v := 0) hx hb dX7_valueOf_3 (by decide) ?_
  refine lv_istore (lv' := [(6, .int 0), (5, .int (-1)), (0, .ref (q 0)), (1, .int p1), (2, .int p2), (3, .int p3), (4, .int p4)]) hx hb dX7_valueOf_4 hl (by decide) rfl (fun ls hl => ?_)
  have hz : szI (σ.2.1 3) 300 := hI.2.2.1
  have hz2 := hz.2
  have loop_6 : ∀ (k i : Nat) (best : Int32), i + k = (σ.2.1 3).toNatClampNeg → (best = (-1) ∨ vp_in best 300) → fX7_valueOf σ p1 p2 p3 p4 = flX7_valueOf_6 σ p1 p2 p3 p4 k i best → ∀ (ls : Array Slot), lv_has ls 7 [(0, .ref (q 0)), (1, .int p1), (2, .int p2), (3, .int p3), (4, .int p4), (6, .int (nI i)), (5, .int best)] → W p l e (headSpec (.code yX7_valueOf cX7_valueOf 7 (some .int) :: tb) { frames := 2, cells := 0, slots := 0, locals := 47 }).room s m (List.toArray [.ref (q 0), .int p1, .int p2, .int p3, .int p4]) below meth c s.heap [] 0 0 (MQ below (vp_Si (fun r => r = fX7_valueOf σ p1 p2 p3 p4)) (List.toArray [.ref (q 0), .int p1, .int p2, .int p3, .int p4]) s 0 0 (fun _ => False)) (F0 m 6 ls []) := by
    intro k
    induction k with
    | zero =>
      intro i best hik hv hE ls hl
      refine lv_iload hx hb dX7_valueOf_6 (lv_at hl 5 rfl) ?_
      refine lv_aload_n hx hb dX7_valueOf_8 rfl (lv_at hl 0 rfl) ?_
      refine va_get (D := (dC, dI)) (ci := 7) (v := .int (σ.2.1 3)) (C := RX7) (T := TX7) (N := 26) hx hb hts inX7 hown hK hP 0 rfl rfl 3 (by decide) (hts _ fl_X7_122) (fun _ h9 => h9) rfl dX7_valueOf_9 ?_
      refine lv_icmp_ge (tgt := 85) hx hb dX7_valueOf_12 (by decide) (fun c_12 => ?_) (fun c_12 => ?_)
      · refine lv_iload hx hb dX7_valueOf_85 (lv_at hl 6 rfl) ?_
        refine lv_iconst (v := (-1)) hx hb dX7_valueOf_87 (by decide) ?_
        refine lv_icmp_ne (tgt := 96) hx hb dX7_valueOf_88 (by decide) (fun c_88 => ?_) (fun c_88 => ?_)
        · refine lv_aload_n hx hb dX7_valueOf_96 rfl (lv_at hl 0 rfl) ?_
          refine va_get (D := (dC, dI)) (ci := 7) (v := .ref (q 18)) (C := RX7) (T := TX7) (N := 26) hx hb hts inX7 hown hK hP 0 rfl rfl 22 (by decide) (hts _ fl_X7_61) (fun _ h9 => h9) rfl dX7_valueOf_97 ?_
          refine lv_iload hx hb dX7_valueOf_100 (lv_at hl 6 rfl) ?_
          refine va_iald hx hb hK hP 18 0 rfl rfl (hv.resolve_left c_88) dX7_valueOf_102 ?_
          exact W.iret (v := σ.1 12 best.toNatClampNeg) hx hb hr (fun t ht hW => ⟨_, rfl, (by rw [hE, flX7_valueOf_6, if_neg c_88]), ht⟩) (fun _ h => absurd h List.not_mem_nil) dX7_valueOf_103
        · refine lv_bipush (v := 100) hx hb dX7_valueOf_91 (by decide) ?_
          refine lv_goto (tgt := 103) hx hb dX7_valueOf_93 (by decide) ?_
          exact W.iret (v := 100) hx hb hr (fun t ht hW => ⟨_, rfl, (by rw [hE, flX7_valueOf_6, if_pos c_88]), ht⟩) (fun _ h => absurd h List.not_mem_nil) dX7_valueOf_103
      · exact absurd (by rw [hz.1]; exact nI_le (by omega) (by omega)) c_12
    | succ k ih =>
      intro i best hik hv hE ls hl
      refine lv_iload hx hb dX7_valueOf_6 (lv_at hl 5 rfl) ?_
      refine lv_aload_n hx hb dX7_valueOf_8 rfl (lv_at hl 0 rfl) ?_
      refine va_get (D := (dC, dI)) (ci := 7) (v := .int (σ.2.1 3)) (C := RX7) (T := TX7) (N := 26) hx hb hts inX7 hown hK hP 0 rfl rfl 3 (by decide) (hts _ fl_X7_122) (fun _ h9 => h9) rfl dX7_valueOf_9 ?_
      refine lv_icmp_ge (tgt := 85) hx hb dX7_valueOf_12 (by decide) (fun c_12 => ?_) (fun c_12 => ?_)
      · exact absurd c_12 (by rw [hz.1]; exact nI_ge (by omega) (by omega))
      · refine lv_aload_n hx hb dX7_valueOf_15 rfl (lv_at hl 0 rfl) ?_
        refine lv_iload hx hb dX7_valueOf_16 (lv_at hl 5 rfl) ?_
        refine lv_iload_n hx hb dX7_valueOf_18 rfl (lv_at hl 1 rfl) ?_
        refine lv_iload_n hx hb dX7_valueOf_19 rfl (lv_at hl 2 rfl) ?_
        refine lv_iload hx hb dX7_valueOf_20 (lv_at hl 4 rfl) ?_
        refine xc_i (va_runV (As := [.int (nI i), .int p1, .int p2, .int p4]) (rest := []) ⟨hx, hb, hml, hown, hts⟩ (c_X7_isTelling l dC dI cI cJ q σ (nI i) p1 p2 p4 (by assumption) (vp_in_nI (by omega) (by omega))) (cwV 4 hts (gV ml_X7_125 im_X7_isTelling se_X7_isTelling in_X7 co_X7_isTelling) rfl rfl rfl (by decide +kernel) ⟨Nat.le_of_ble_eq_true rfl, Nat.le_of_ble_eq_true rfl⟩) (preV hK hP (pos := 0) (ci := 7) rfl rfl) rfl rfl hl.1 rfl (lv_room (Nat.le_of_ble_eq_true rfl)) dX7_valueOf_22 ⟨Nat.zero_le _, Nat.zero_le _⟩) ?_
        refine lv_if_eq (tgt := 79) hx hb dX7_valueOf_25 (by decide) (fun c_25 => ?_) (fun c_25 => ?_)
        · refine lv_iinc (v := nI (i + 1)) (lv' := [(6, .int (nI (i + 1))), (0, .ref (q 0)), (1, .int p1), (2, .int p2), (3, .int p3), (4, .int p4), (5, .int best)]) hx hb dX7_valueOf_79 hl (k := 5) rfl (nI_1 i) (by decide) rfl (fun ls hl => ?_)
          refine lv_goto (tgt := 6) hx hb dX7_valueOf_82 (by decide) ?_
          exact ih (i + 1) best (by omega) (by first | exact hv | exact Or.inr (vp_in_nI (by omega) (by decide))) (by rw [hE, flX7_valueOf_6, if_pos c_25]) ls (lv_sub hl [1, 2, 3, 4, 5, 0, 6] rfl)
        · refine lv_iload_n hx hb dX7_valueOf_28 rfl (lv_at hl 2 rfl) ?_
          refine lv_iconst (v := 1) hx hb dX7_valueOf_29 (by decide) ?_
          refine lv_icmp_le (tgt := 47) hx hb dX7_valueOf_30 (by decide) (fun c_30 => ?_) (fun c_30 => ?_)
          · refine lv_iload hx hb dX7_valueOf_47 (lv_at hl 6 rfl) ?_
            refine lv_iconst (v := (-1)) hx hb dX7_valueOf_49 (by decide) ?_
            refine lv_icmp_eq (tgt := 75) hx hb dX7_valueOf_50 (by decide) (fun c_50 => ?_) (fun c_50 => ?_)
            · refine lv_iload hx hb dX7_valueOf_75 (lv_at hl 5 rfl) ?_
              refine lv_istore (lv' := [(5, .int (nI i)), (0, .ref (q 0)), (1, .int p1), (2, .int p2), (3, .int p3), (4, .int p4), (6, .int (nI i))]) hx hb dX7_valueOf_77 hl (by decide) rfl (fun ls hl => ?_)
              refine lv_iinc (v := nI (i + 1)) (lv' := [(6, .int (nI (i + 1))), (5, .int (nI i)), (0, .ref (q 0)), (1, .int p1), (2, .int p2), (3, .int p3), (4, .int p4)]) hx hb dX7_valueOf_79 hl (k := 6) rfl (nI_1 i) (by decide) rfl (fun ls hl => ?_)
              refine lv_goto (tgt := 6) hx hb dX7_valueOf_82 (by decide) ?_
              exact ih (i + 1) (nI i) (by omega) (by first | exact hv | exact Or.inr (vp_in_nI (by omega) (by decide))) (by rw [hE, flX7_valueOf_6, if_neg c_25, if_pos c_30, if_pos c_50]) ls (lv_sub hl [2, 3, 4, 5, 6, 0, 1] rfl)
            · refine lv_iload_n hx hb dX7_valueOf_53 rfl (lv_at hl 2 rfl) ?_
              refine lv_iconst (v := 2) hx hb dX7_valueOf_54 (by decide) ?_
              refine lv_icmp_lt (tgt := 75) hx hb dX7_valueOf_55 (by decide) (fun c_55 => ?_) (fun c_55 => ?_)
              · refine lv_iload hx hb dX7_valueOf_75 (lv_at hl 5 rfl) ?_
                refine lv_istore (lv' := [(5, .int (nI i)), (0, .ref (q 0)), (1, .int p1), (2, .int p2), (3, .int p3), (4, .int p4), (6, .int (nI i))]) hx hb dX7_valueOf_77 hl (by decide) rfl (fun ls hl => ?_)
                refine lv_iinc (v := nI (i + 1)) (lv' := [(6, .int (nI (i + 1))), (5, .int (nI i)), (0, .ref (q 0)), (1, .int p1), (2, .int p2), (3, .int p3), (4, .int p4)]) hx hb dX7_valueOf_79 hl (k := 6) rfl (nI_1 i) (by decide) rfl (fun ls hl => ?_)
                refine lv_goto (tgt := 6) hx hb dX7_valueOf_82 (by decide) ?_
                exact ih (i + 1) (nI i) (by omega) (by first | exact hv | exact Or.inr (vp_in_nI (by omega) (by decide))) (by rw [hE, flX7_valueOf_6, if_neg c_25, if_pos c_30, if_neg c_50, if_pos c_55]) ls (lv_sub hl [2, 3, 4, 5, 6, 0, 1] rfl)
              · refine lv_aload_n hx hb dX7_valueOf_58 rfl (lv_at hl 0 rfl) ?_
                refine va_get (D := (dC, dI)) (ci := 7) (v := .ref (q 17)) (C := RX7) (T := TX7) (N := 26) hx hb hts inX7 hown hK hP 0 rfl rfl 21 (by decide) (hts _ fl_X7_58) (fun _ h9 => h9) rfl dX7_valueOf_59 ?_
                refine lv_iload hx hb dX7_valueOf_62 (lv_at hl 5 rfl) ?_
                refine xa_ild hx hb hK hP 17 0 rfl rfl (by omega) (by decide) dX7_valueOf_64 ?_
                refine lv_aload_n hx hb dX7_valueOf_65 rfl (lv_at hl 0 rfl) ?_
                refine va_get (D := (dC, dI)) (ci := 7) (v := .ref (q 17)) (C := RX7) (T := TX7) (N := 26) hx hb hts inX7 hown hK hP 0 rfl rfl 21 (by decide) (hts _ fl_X7_58) (fun _ h9 => h9) rfl dX7_valueOf_66 ?_
                refine lv_iload hx hb dX7_valueOf_69 (lv_at hl 6 rfl) ?_
                refine va_iald hx hb hK hP 17 0 rfl rfl (hv.resolve_left c_50) dX7_valueOf_71 ?_
                refine lv_icmp_lt (tgt := 79) hx hb dX7_valueOf_72 (by decide) (fun c_72 => ?_) (fun c_72 => ?_)
                · refine lv_iinc (v := nI (i + 1)) (lv' := [(6, .int (nI (i + 1))), (0, .ref (q 0)), (1, .int p1), (2, .int p2), (3, .int p3), (4, .int p4), (5, .int best)]) hx hb dX7_valueOf_79 hl (k := 5) rfl (nI_1 i) (by decide) rfl (fun ls hl => ?_)
                  refine lv_goto (tgt := 6) hx hb dX7_valueOf_82 (by decide) ?_
                  exact ih (i + 1) best (by omega) (by first | exact hv | exact Or.inr (vp_in_nI (by omega) (by decide))) (by rw [hE, flX7_valueOf_6, if_neg c_25, if_pos c_30, if_neg c_50, if_neg c_55, if_pos c_72]) ls (lv_sub hl [1, 2, 3, 4, 5, 0, 6] rfl)
                · refine lv_iload hx hb dX7_valueOf_75 (lv_at hl 5 rfl) ?_
                  refine lv_istore (lv' := [(5, .int (nI i)), (0, .ref (q 0)), (1, .int p1), (2, .int p2), (3, .int p3), (4, .int p4), (6, .int (nI i))]) hx hb dX7_valueOf_77 hl (by decide) rfl (fun ls hl => ?_)
                  refine lv_iinc (v := nI (i + 1)) (lv' := [(6, .int (nI (i + 1))), (5, .int (nI i)), (0, .ref (q 0)), (1, .int p1), (2, .int p2), (3, .int p3), (4, .int p4)]) hx hb dX7_valueOf_79 hl (k := 6) rfl (nI_1 i) (by decide) rfl (fun ls hl => ?_)
                  refine lv_goto (tgt := 6) hx hb dX7_valueOf_82 (by decide) ?_
                  exact ih (i + 1) (nI i) (by omega) (by first | exact hv | exact Or.inr (vp_in_nI (by omega) (by decide))) (by rw [hE, flX7_valueOf_6, if_neg c_25, if_pos c_30, if_neg c_50, if_neg c_55, if_neg c_72]) ls (lv_sub hl [2, 3, 4, 5, 6, 0, 1] rfl)
          · refine lv_aload_n hx hb dX7_valueOf_33 rfl (lv_at hl 0 rfl) ?_
            refine va_get (D := (dC, dI)) (ci := 7) (v := .ref (q 17)) (C := RX7) (T := TX7) (N := 26) hx hb hts inX7 hown hK hP 0 rfl rfl 21 (by decide) (hts _ fl_X7_58) (fun _ h9 => h9) rfl dX7_valueOf_34 ?_
            refine lv_iload hx hb dX7_valueOf_37 (lv_at hl 5 rfl) ?_
            refine xa_ild hx hb hK hP 17 0 rfl rfl (by omega) (by decide) dX7_valueOf_39 ?_
            refine lv_iload_n hx hb dX7_valueOf_40 rfl (lv_at hl 3 rfl) ?_
            refine lv_icmp_le (tgt := 47) hx hb dX7_valueOf_41 (by decide) (fun c_41 => ?_) (fun c_41 => ?_)
            · refine lv_iload hx hb dX7_valueOf_47 (lv_at hl 6 rfl) ?_
              refine lv_iconst (v := (-1)) hx hb dX7_valueOf_49 (by decide) ?_
              refine lv_icmp_eq (tgt := 75) hx hb dX7_valueOf_50 (by decide) (fun c_50 => ?_) (fun c_50 => ?_)
              · refine lv_iload hx hb dX7_valueOf_75 (lv_at hl 5 rfl) ?_
                refine lv_istore (lv' := [(5, .int (nI i)), (0, .ref (q 0)), (1, .int p1), (2, .int p2), (3, .int p3), (4, .int p4), (6, .int (nI i))]) hx hb dX7_valueOf_77 hl (by decide) rfl (fun ls hl => ?_)
                refine lv_iinc (v := nI (i + 1)) (lv' := [(6, .int (nI (i + 1))), (5, .int (nI i)), (0, .ref (q 0)), (1, .int p1), (2, .int p2), (3, .int p3), (4, .int p4)]) hx hb dX7_valueOf_79 hl (k := 6) rfl (nI_1 i) (by decide) rfl (fun ls hl => ?_)
                refine lv_goto (tgt := 6) hx hb dX7_valueOf_82 (by decide) ?_
                exact ih (i + 1) (nI i) (by omega) (by first | exact hv | exact Or.inr (vp_in_nI (by omega) (by decide))) (by rw [hE, flX7_valueOf_6, if_neg c_25, if_neg c_30, if_pos c_41, if_pos c_50]) ls (lv_sub hl [2, 3, 4, 5, 6, 0, 1] rfl)
              · refine lv_iload_n hx hb dX7_valueOf_53 rfl (lv_at hl 2 rfl) ?_
                refine lv_iconst (v := 2) hx hb dX7_valueOf_54 (by decide) ?_
                refine lv_icmp_lt (tgt := 75) hx hb dX7_valueOf_55 (by decide) (fun c_55 => ?_) (fun c_55 => ?_)
                · refine lv_iload hx hb dX7_valueOf_75 (lv_at hl 5 rfl) ?_
                  refine lv_istore (lv' := [(5, .int (nI i)), (0, .ref (q 0)), (1, .int p1), (2, .int p2), (3, .int p3), (4, .int p4), (6, .int (nI i))]) hx hb dX7_valueOf_77 hl (by decide) rfl (fun ls hl => ?_)
                  refine lv_iinc (v := nI (i + 1)) (lv' := [(6, .int (nI (i + 1))), (5, .int (nI i)), (0, .ref (q 0)), (1, .int p1), (2, .int p2), (3, .int p3), (4, .int p4)]) hx hb dX7_valueOf_79 hl (k := 6) rfl (nI_1 i) (by decide) rfl (fun ls hl => ?_)
                  refine lv_goto (tgt := 6) hx hb dX7_valueOf_82 (by decide) ?_
                  exact ih (i + 1) (nI i) (by omega) (by first | exact hv | exact Or.inr (vp_in_nI (by omega) (by decide))) (by rw [hE, flX7_valueOf_6, if_neg c_25, if_neg c_30, if_pos c_41, if_neg c_50, if_pos c_55]) ls (lv_sub hl [2, 3, 4, 5, 6, 0, 1] rfl)
                · refine lv_aload_n hx hb dX7_valueOf_58 rfl (lv_at hl 0 rfl) ?_
                  refine va_get (D := (dC, dI)) (ci := 7) (v := .ref (q 17)) (C := RX7) (T := TX7) (N := 26) hx hb hts inX7 hown hK hP 0 rfl rfl 21 (by decide) (hts _ fl_X7_58) (fun _ h9 => h9) rfl dX7_valueOf_59 ?_
                  refine lv_iload hx hb dX7_valueOf_62 (lv_at hl 5 rfl) ?_
                  refine xa_ild hx hb hK hP 17 0 rfl rfl (by omega) (by decide) dX7_valueOf_64 ?_
                  refine lv_aload_n hx hb dX7_valueOf_65 rfl (lv_at hl 0 rfl) ?_
                  refine va_get (D := (dC, dI)) (ci := 7) (v := .ref (q 17)) (C := RX7) (T := TX7) (N := 26) hx hb hts inX7 hown hK hP 0 rfl rfl 21 (by decide) (hts _ fl_X7_58) (fun _ h9 => h9) rfl dX7_valueOf_66 ?_
                  refine lv_iload hx hb dX7_valueOf_69 (lv_at hl 6 rfl) ?_
                  refine va_iald hx hb hK hP 17 0 rfl rfl (hv.resolve_left c_50) dX7_valueOf_71 ?_
                  refine lv_icmp_lt (tgt := 79) hx hb dX7_valueOf_72 (by decide) (fun c_72 => ?_) (fun c_72 => ?_)
                  · refine lv_iinc (v := nI (i + 1)) (lv' := [(6, .int (nI (i + 1))), (0, .ref (q 0)), (1, .int p1), (2, .int p2), (3, .int p3), (4, .int p4), (5, .int best)]) hx hb dX7_valueOf_79 hl (k := 5) rfl (nI_1 i) (by decide) rfl (fun ls hl => ?_)
                    refine lv_goto (tgt := 6) hx hb dX7_valueOf_82 (by decide) ?_
                    exact ih (i + 1) best (by omega) (by first | exact hv | exact Or.inr (vp_in_nI (by omega) (by decide))) (by rw [hE, flX7_valueOf_6, if_neg c_25, if_neg c_30, if_pos c_41, if_neg c_50, if_neg c_55, if_pos c_72]) ls (lv_sub hl [1, 2, 3, 4, 5, 0, 6] rfl)
                  · refine lv_iload hx hb dX7_valueOf_75 (lv_at hl 5 rfl) ?_
                    refine lv_istore (lv' := [(5, .int (nI i)), (0, .ref (q 0)), (1, .int p1), (2, .int p2), (3, .int p3), (4, .int p4), (6, .int (nI i))]) hx hb dX7_valueOf_77 hl (by decide) rfl (fun ls hl => ?_)
                    refine lv_iinc (v := nI (i + 1)) (lv' := [(6, .int (nI (i + 1))), (5, .int (nI i)), (0, .ref (q 0)), (1, .int p1), (2, .int p2), (3, .int p3), (4, .int p4)]) hx hb dX7_valueOf_79 hl (k := 6) rfl (nI_1 i) (by decide) rfl (fun ls hl => ?_)
                    refine lv_goto (tgt := 6) hx hb dX7_valueOf_82 (by decide) ?_
                    exact ih (i + 1) (nI i) (by omega) (by first | exact hv | exact Or.inr (vp_in_nI (by omega) (by decide))) (by rw [hE, flX7_valueOf_6, if_neg c_25, if_neg c_30, if_pos c_41, if_neg c_50, if_neg c_55, if_neg c_72]) ls (lv_sub hl [2, 3, 4, 5, 6, 0, 1] rfl)
            · refine lv_goto (tgt := 79) hx hb dX7_valueOf_44 (by decide) ?_
              refine lv_iinc (v := nI (i + 1)) (lv' := [(6, .int (nI (i + 1))), (0, .ref (q 0)), (1, .int p1), (2, .int p2), (3, .int p3), (4, .int p4), (5, .int best)]) hx hb dX7_valueOf_79 hl (k := 5) rfl (nI_1 i) (by decide) rfl (fun ls hl => ?_)
              refine lv_goto (tgt := 6) hx hb dX7_valueOf_82 (by decide) ?_
              exact ih (i + 1) best (by omega) (by first | exact hv | exact Or.inr (vp_in_nI (by omega) (by decide))) (by rw [hE, flX7_valueOf_6, if_neg c_25, if_neg c_30, if_neg c_41]) ls (lv_sub hl [1, 2, 3, 4, 5, 0, 6] rfl)
  exact loop_6 ((σ.2.1 3).toNatClampNeg) 0 (-1) (by rw [Nat.zero_add]) (Or.inl rfl) (by rw [fX7_valueOf]) ls (lv_sub hl [2, 3, 4, 5, 6, 0, 1] rfl)

def fX7_told (σ : St) (p1 : Int32) (p2 : Int32) (p3 : Int32) (p4 : Int32) : Int32 :=
  (if (fX7_isIn σ p1 0 ((σ.2.1 1) - 1)) = 0 then (-1) else (if (fX7_isIn σ p2 0 3) = 0 then (-1) else (if (fX7_isIn σ p3 0 2000) = 0 then (-1) else (if (fX7_isIn σ p4 0 2000) = 0 then (-1) else (if p4 < (σ.1 2 p1.toNatClampNeg) then (-1) else fX7_valueOf σ p1 p2 p3 p4)))))
set_option maxHeartbeats 4000000 in
set_option maxRecDepth 100000 in
theorem c_X7_told (l : Launch) (dC : Nat → ClassId) (dI : Nat → Nat → Nat) (cI cJ : ClassId) (q : Nat → Nat) (σ : St) (p1 : Int32) (p2 : Int32) (p3 : Int32) (p4 : Int32) (hI : IB σ) : Met l yX7_told (.code yX7_told cX7_told 5 (some .int) :: tb) { frames := 3, cells := 0, slots := 0, locals := 73 } (Pu (dC, dI) (tyC cI cJ) (wM cI cJ q σ) [.ref (q 0), .int p1, .int p2, .int p3, .int p4]) (vp_Si (fun r => r = fX7_told σ p1 p2 p3 p4)) 0 0 (fun _ => False) := by
  refine Met.ofW (cc := cX7_told) (maxL := 5) (ret := (some .int)) (by decide) rfl ?_
  intro p e s m args below meth c s₁ B hml hv
  obtain ⟨rfl, hP, hK⟩ := hv
  have hx := B.exec
  have hb := B.bytes
  have hr := B.returns
  have hts0 := atoms_spec (ws := .code yX7_told cX7_told 5 (some .int) :: tb) B.pre
  have hts : ∀ w ∈ tb, w.before _ s = true := fun w hw => hts0 w (List.mem_cons_of_mem _ hw)
  have hown : s.vm.findClass RX7 = some m.cls := findClass_of_methodNamed B.named
  have hlocks := B.notSynchronized
  have hl := lv_entry ([.ref (q 0), .int p1, .int p2, .int p3, .int p4]) (n := 5) (Nat.le_of_ble_eq_true rfl)
  rw [lg_entry_eq]
  generalize (lg_sl ([.ref (q 0), .int p1, .int p2, .int p3, .int p4]) ++ List.replicate (5 - (lg_sl ([.ref (q 0), .int p1, .int p2, .int p3, .int p4])).length) Slot.unset).toArray = ls at hl ⊢
  have hl : lv_has ls 5 [(0, .ref (q 0)), (1, .int p1), (2, .int p2), (3, .int p3), (4, .int p4)] := hl
  refine lv_aload_n hx hb dX7_told_0 rfl (lv_at hl 0 rfl) ?_
  refine lv_iload_n hx hb dX7_told_1 rfl (lv_at hl 1 rfl) ?_
  refine xc_i (va_runV (As := [.int p1]) (rest := []) ⟨hx, hb, hml, hown, hts⟩ (c_X7_isThing l dC dI cI cJ q σ p1) (cwV 1 hts (gV ml_X7_105 im_X7_isThing se_X7_isThing in_X7 co_X7_isThing) rfl rfl rfl (by decide +kernel) ⟨Nat.le_of_ble_eq_true rfl, Nat.le_of_ble_eq_true rfl⟩) (preV hK hP (pos := 0) (ci := 7) rfl rfl) rfl rfl hl.1 rfl (lv_room (Nat.le_of_ble_eq_true rfl)) dX7_told_2 ⟨Nat.zero_le _, Nat.zero_le _⟩) ?_
  refine lv_if_eq (tgt := 53) hx hb dX7_told_5 (by decide) (fun c_5 => ?_) (fun c_5 => ?_)
  · refine lv_iconst (v := (-1)) hx hb dX7_told_53 (by decide) ?_
    exact W.iret (v := (-1)) hx hb hr (fun t ht hW => ⟨_, rfl, (by rw [fX7_told, if_pos c_5]), ht⟩) (fun _ h => absurd h List.not_mem_nil) dX7_told_54
  · refine lv_iload_n hx hb dX7_told_8 rfl (lv_at hl 2 rfl) ?_
    refine xc_i (va_runS (As := [.int p2]) (rest := []) ⟨hx, hb, hml, hown, hts⟩ (c_X7_isMark l dC dI cI cJ q σ p2) (va_cwS 1 hts (gS ml_X7_119 st_X7_isMark in_X7 co_X7_isMark) rfl rfl rfl (by decide +kernel) ⟨Nat.le_of_ble_eq_true rfl, Nat.le_of_ble_eq_true rfl⟩) (preS hK hP) rfl rfl hl.1 rfl (lv_room (Nat.le_of_ble_eq_true rfl)) dX7_told_9 ⟨Nat.zero_le _, Nat.zero_le _⟩) ?_
    refine lv_if_eq (tgt := 53) hx hb dX7_told_12 (by decide) (fun c_12 => ?_) (fun c_12 => ?_)
    · refine lv_iconst (v := (-1)) hx hb dX7_told_53 (by decide) ?_
      exact W.iret (v := (-1)) hx hb hr (fun t ht hW => ⟨_, rfl, (by rw [fX7_told, if_neg c_5, if_pos c_12]), ht⟩) (fun _ h => absurd h List.not_mem_nil) dX7_told_54
    · refine lv_iload_n hx hb dX7_told_15 rfl (lv_at hl 3 rfl) ?_
      refine xc_i (va_runS (As := [.int p3]) (rest := []) ⟨hx, hb, hml, hown, hts⟩ (c_X7_isDay l dC dI cI cJ q σ p3) (va_cwS 1 hts (gS ml_X7_95 st_X7_isDay in_X7 co_X7_isDay) rfl rfl rfl (by decide +kernel) ⟨Nat.le_of_ble_eq_true rfl, Nat.le_of_ble_eq_true rfl⟩) (preS hK hP) rfl rfl hl.1 rfl (lv_room (Nat.le_of_ble_eq_true rfl)) dX7_told_16 ⟨Nat.zero_le _, Nat.zero_le _⟩) ?_
      refine lv_if_eq (tgt := 53) hx hb dX7_told_19 (by decide) (fun c_19 => ?_) (fun c_19 => ?_)
      · refine lv_iconst (v := (-1)) hx hb dX7_told_53 (by decide) ?_
        exact W.iret (v := (-1)) hx hb hr (fun t ht hW => ⟨_, rfl, (by rw [fX7_told, if_neg c_5, if_neg c_12, if_pos c_19]), ht⟩) (fun _ h => absurd h List.not_mem_nil) dX7_told_54
      · refine lv_iload hx hb dX7_told_22 (lv_at hl 4 rfl) ?_
        refine xc_i (va_runS (As := [.int p4]) (rest := []) ⟨hx, hb, hml, hown, hts⟩ (c_X7_isDay l dC dI cI cJ q σ p4) (va_cwS 1 hts (gS ml_X7_95 st_X7_isDay in_X7 co_X7_isDay) rfl rfl rfl (by decide +kernel) ⟨Nat.le_of_ble_eq_true rfl, Nat.le_of_ble_eq_true rfl⟩) (preS hK hP) rfl rfl hl.1 rfl (lv_room (Nat.le_of_ble_eq_true rfl)) dX7_told_24 ⟨Nat.zero_le _, Nat.zero_le _⟩) ?_
        refine lv_if_eq (tgt := 53) hx hb dX7_told_27 (by decide) (fun c_27 => ?_) (fun c_27 => ?_)
        · refine lv_iconst (v := (-1)) hx hb dX7_told_53 (by decide) ?_
          exact W.iret (v := (-1)) hx hb hr (fun t ht hW => ⟨_, rfl, (by rw [fX7_told, if_neg c_5, if_neg c_12, if_neg c_19, if_pos c_27]), ht⟩) (fun _ h => absurd h List.not_mem_nil) dX7_told_54
        · refine lv_aload_n hx hb dX7_told_30 rfl (lv_at hl 0 rfl) ?_
          refine va_get (D := (dC, dI)) (ci := 7) (v := .ref (q 3)) (C := RX7) (T := TX7) (N := 26) hx hb hts inX7 hown hK hP 0 rfl rfl 7 (by decide) (hts _ fl_X7_16) (fun _ h9 => h9) rfl dX7_told_31 ?_
          refine lv_iload_n hx hb dX7_told_34 rfl (lv_at hl 1 rfl) ?_
          refine va_iald hx hb hK hP 3 0 rfl rfl (isIn_in40 hI c_5) dX7_told_35 ?_
          refine lv_iload hx hb dX7_told_36 (lv_at hl 4 rfl) ?_
          refine lv_icmp_gt (tgt := 53) hx hb dX7_told_38 (by decide) (fun c_38 => ?_) (fun c_38 => ?_)
          · refine lv_iconst (v := (-1)) hx hb dX7_told_53 (by decide) ?_
            exact W.iret (v := (-1)) hx hb hr (fun t ht hW => ⟨_, rfl, (by rw [fX7_told, if_neg c_5, if_neg c_12, if_neg c_19, if_neg c_27, if_pos c_38]), ht⟩) (fun _ h => absurd h List.not_mem_nil) dX7_told_54
          · refine lv_aload_n hx hb dX7_told_41 rfl (lv_at hl 0 rfl) ?_
            refine lv_iload_n hx hb dX7_told_42 rfl (lv_at hl 1 rfl) ?_
            refine lv_iload_n hx hb dX7_told_43 rfl (lv_at hl 2 rfl) ?_
            refine lv_iload_n hx hb dX7_told_44 rfl (lv_at hl 3 rfl) ?_
            refine lv_iload hx hb dX7_told_45 (lv_at hl 4 rfl) ?_
            refine xc_i (va_runV (As := [.int p1, .int p2, .int p3, .int p4]) (rest := []) ⟨hx, hb, hml, hown, hts⟩ (c_X7_valueOf l dC dI cI cJ q σ p1 p2 p3 p4 (by assumption)) (cwV 4 hts (gV ml_X7_131 im_X7_valueOf se_X7_valueOf in_X7 co_X7_valueOf) rfl rfl rfl (by decide +kernel) ⟨Nat.le_of_ble_eq_true rfl, Nat.le_of_ble_eq_true rfl⟩) (preV hK hP (pos := 0) (ci := 7) rfl rfl) rfl rfl hl.1 rfl (lv_room (Nat.le_of_ble_eq_true rfl)) dX7_told_47 ⟨Nat.zero_le _, Nat.zero_le _⟩) ?_
            refine lv_goto (tgt := 54) hx hb dX7_told_50 (by decide) ?_
            exact W.iret (v := fX7_valueOf σ p1 p2 p3 p4) hx hb hr (fun t ht hW => ⟨_, rfl, (by rw [fX7_told, if_neg c_5, if_neg c_12, if_neg c_19, if_neg c_27, if_neg c_38]), ht⟩) (fun _ h => absurd h List.not_mem_nil) dX7_told_54

def flX7_turns_8 (σ : St) (p1 : Int32) (p2 : Int32) : Nat → Nat → Int32 → Int32 → Int32
  | 0, i, n, last => n
  | k + 1, i, n, last => (if (fX7_isTelling σ (nI i) p1 1 p2) = 0 then flX7_turns_8 σ p1 p2 k (i + 1) n last else (if last = (-1) then flX7_turns_8 σ p1 p2 k (i + 1) (n + (fX7_one σ 0)) (σ.1 12 i) else (if (σ.1 12 i) = last then flX7_turns_8 σ p1 p2 k (i + 1) (n + (fX7_one σ 0)) (σ.1 12 i) else flX7_turns_8 σ p1 p2 k (i + 1) (n + (fX7_one σ 1)) (σ.1 12 i))))
def fX7_turns (σ : St) (p1 : Int32) (p2 : Int32) : Int32 :=
  flX7_turns_8 σ p1 p2 ((σ.2.1 3).toNatClampNeg) 0 0 (-1)
set_option maxHeartbeats 4000000 in
set_option maxRecDepth 100000 in
theorem c_X7_turns (l : Launch) (dC : Nat → ClassId) (dI : Nat → Nat → Nat) (cI cJ : ClassId) (q : Nat → Nat) (σ : St) (p1 : Int32) (p2 : Int32) (hI : IB σ) : Met l yX7_turns (.code yX7_turns cX7_turns 6 (some .int) :: tb) { frames := 2, cells := 0, slots := 0, locals := 47 } (Pu (dC, dI) (tyC cI cJ) (wM cI cJ q σ) [.ref (q 0), .int p1, .int p2]) (vp_Si (fun r => r = fX7_turns σ p1 p2)) 0 0 (fun _ => False) := by
  refine Met.ofW (cc := cX7_turns) (maxL := 6) (ret := (some .int)) (by decide) rfl ?_
  intro p e s m args below meth c s₁ B hml hv
  obtain ⟨rfl, hP, hK⟩ := hv
  have hx := B.exec
  have hb := B.bytes
  have hr := B.returns
  have hts0 := atoms_spec (ws := .code yX7_turns cX7_turns 6 (some .int) :: tb) B.pre
  have hts : ∀ w ∈ tb, w.before _ s = true := fun w hw => hts0 w (List.mem_cons_of_mem _ hw)
  have hown : s.vm.findClass RX7 = some m.cls := findClass_of_methodNamed B.named
  have hlocks := B.notSynchronized
  have hl := lv_entry ([.ref (q 0), .int p1, .int p2]) (n := 6) (Nat.le_of_ble_eq_true rfl)
  rw [lg_entry_eq]
  generalize (lg_sl ([.ref (q 0), .int p1, .int p2]) ++ List.replicate (6 - (lg_sl ([.ref (q 0), .int p1, .int p2])).length) Slot.unset).toArray = ls at hl ⊢
  have hl : lv_has ls 6 [(0, .ref (q 0)), (1, .int p1), (2, .int p2)] := hl
  refine lv_iconst (v := 0) hx hb dX7_turns_0 (by decide) ?_
  refine lv_istore_n (lv' := [(3, .int 0), (0, .ref (q 0)), (1, .int p1), (2, .int p2)]) hx hb dX7_turns_1 rfl hl (by decide) rfl (fun ls hl => ?_)
  refine lv_iconst (v := (-1)) hx hb dX7_turns_2 (by decide) ?_
  refine lv_istore (lv' := [(4, .int (-1)), (3, .int 0), (0, .ref (q 0)), (1, .int p1), (2, .int p2)]) hx hb dX7_turns_3 hl (by decide) rfl (fun ls hl => ?_)
  refine lv_iconst (v := 0) hx hb dX7_turns_5 (by decide) ?_
  refine lv_istore (lv' := [(5, .int 0), (4, .int (-1)), (3, .int 0), (0, .ref (q 0)), (1, .int p1), (2, .int p2)]) hx hb dX7_turns_6 hl (by decide) rfl (fun ls hl => ?_)
  have hz : szI (σ.2.1 3) 300 := hI.2.2.1
  have hz2 := hz.2
  have loop_8 : ∀ (k i : Nat) (n : Int32) (last : Int32), i + k = (σ.2.1 3).toNatClampNeg → fX7_turns σ p1 p2 = flX7_turns_8 σ p1 p2 k i n last → ∀ (ls : Array Slot), lv_has ls 6 [(0, .ref (q 0)), (1, .int p1), (2, .int p2), (5, .int (nI i)), (3, .int n), (4, .int last)] → W p l e (headSpec (.code yX7_turns cX7_turns 6 (some .int) :: tb) { frames := 2, cells := 0, slots := 0, locals := 47 }).room s m (List.toArray [.ref (q 0), .int p1, .int p2]) below meth c s.heap [] 0 0 (MQ below (vp_Si (fun r => r = fX7_turns σ p1 p2)) (List.toArray [.ref (q 0), .int p1, .int p2]) s 0 0 (fun _ => False)) (F0 m 8 ls []) := by
    intro k
    induction k with
    | zero =>
      intro i n last hik hE ls hl
      refine lv_iload hx hb dX7_turns_8 (lv_at hl 3 rfl) ?_
      refine lv_aload_n hx hb dX7_turns_10 rfl (lv_at hl 0 rfl) ?_
      refine va_get (D := (dC, dI)) (ci := 7) (v := .int (σ.2.1 3)) (C := RX7) (T := TX7) (N := 26) hx hb hts inX7 hown hK hP 0 rfl rfl 3 (by decide) (hts _ fl_X7_122) (fun _ h9 => h9) rfl dX7_turns_11 ?_
      refine lv_icmp_ge (tgt := 76) hx hb dX7_turns_14 (by decide) (fun c_14 => ?_) (fun c_14 => ?_)
      · refine lv_iload_n hx hb dX7_turns_76 rfl (lv_at hl 4 rfl) ?_
        exact W.iret (v := n) hx hb hr (fun t ht hW => ⟨_, rfl, (by rw [hE, flX7_turns_8]), ht⟩) (fun _ h => absurd h List.not_mem_nil) dX7_turns_77
      · exact absurd (by rw [hz.1]; exact nI_le (by omega) (by omega)) c_14
    | succ k ih =>
      intro i n last hik hE ls hl
      refine lv_iload hx hb dX7_turns_8 (lv_at hl 3 rfl) ?_
      refine lv_aload_n hx hb dX7_turns_10 rfl (lv_at hl 0 rfl) ?_
      refine va_get (D := (dC, dI)) (ci := 7) (v := .int (σ.2.1 3)) (C := RX7) (T := TX7) (N := 26) hx hb hts inX7 hown hK hP 0 rfl rfl 3 (by decide) (hts _ fl_X7_122) (fun _ h9 => h9) rfl dX7_turns_11 ?_
      refine lv_icmp_ge (tgt := 76) hx hb dX7_turns_14 (by decide) (fun c_14 => ?_) (fun c_14 => ?_)
      · exact absurd c_14 (by rw [hz.1]; exact nI_ge (by omega) (by omega))
      · refine lv_aload_n hx hb dX7_turns_17 rfl (lv_at hl 0 rfl) ?_
        refine lv_iload hx hb dX7_turns_18 (lv_at hl 3 rfl) ?_
        refine lv_iload_n hx hb dX7_turns_20 rfl (lv_at hl 1 rfl) ?_
        refine lv_iconst (v := 1) hx hb dX7_turns_21 (by decide) ?_
        refine lv_iload_n hx hb dX7_turns_22 rfl (lv_at hl 2 rfl) ?_
        refine xc_i (va_runV (As := [.int (nI i), .int p1, .int 1, .int p2]) (rest := []) ⟨hx, hb, hml, hown, hts⟩ (c_X7_isTelling l dC dI cI cJ q σ (nI i) p1 1 p2 (by assumption) (vp_in_nI (by omega) (by omega))) (cwV 4 hts (gV ml_X7_125 im_X7_isTelling se_X7_isTelling in_X7 co_X7_isTelling) rfl rfl rfl (by decide +kernel) ⟨Nat.le_of_ble_eq_true rfl, Nat.le_of_ble_eq_true rfl⟩) (preV hK hP (pos := 0) (ci := 7) rfl rfl) rfl rfl hl.1 rfl (lv_room (Nat.le_of_ble_eq_true rfl)) dX7_turns_23 ⟨Nat.zero_le _, Nat.zero_le _⟩) ?_
        refine lv_if_ne (tgt := 32) hx hb dX7_turns_26 (by decide) (fun c_26 => ?_) (fun c_26 => ?_)
        · refine lv_iload_n hx hb dX7_turns_32 rfl (lv_at hl 4 rfl) ?_
          refine lv_iload hx hb dX7_turns_33 (lv_at hl 5 rfl) ?_
          refine lv_iconst (v := (-1)) hx hb dX7_turns_35 (by decide) ?_
          refine lv_icmp_eq (tgt := 55) hx hb dX7_turns_36 (by decide) (fun c_36 => ?_) (fun c_36 => ?_)
          · refine lv_iconst (v := 0) hx hb dX7_turns_55 (by decide) ?_
            refine xc_i (va_runS (As := [.int 0]) (rest := [.int n]) ⟨hx, hb, hml, hown, hts⟩ (c_X7_one l dC dI cI cJ q σ 0) (va_cwS 1 hts (gS ml_X7_135 st_X7_one in_X7 co_X7_one) rfl rfl rfl (by decide +kernel) ⟨Nat.le_of_ble_eq_true rfl, Nat.le_of_ble_eq_true rfl⟩) (preS hK hP) rfl rfl hl.1 rfl (lv_room (Nat.le_of_ble_eq_true rfl)) dX7_turns_56 ⟨Nat.zero_le _, Nat.zero_le _⟩) ?_
            refine lv_iadd hx hb dX7_turns_59 ?_
            refine lv_istore_n (lv' := [(3, .int (n + (fX7_one σ 0))), (0, .ref (q 0)), (1, .int p1), (2, .int p2), (5, .int (nI i)), (4, .int last)]) hx hb dX7_turns_60 rfl hl (by decide) rfl (fun ls hl => ?_)
            refine lv_aload_n hx hb dX7_turns_61 rfl (lv_at hl 1 rfl) ?_
            refine va_get (D := (dC, dI)) (ci := 7) (v := .ref (q 18)) (C := RX7) (T := TX7) (N := 26) hx hb hts inX7 hown hK hP 0 rfl rfl 22 (by decide) (hts _ fl_X7_61) (fun _ h9 => h9) rfl dX7_turns_62 ?_
            refine lv_iload hx hb dX7_turns_65 (lv_at hl 4 rfl) ?_
            refine xa_ild hx hb hK hP 18 0 rfl rfl (by omega) (by decide) dX7_turns_67 ?_
            refine lv_istore (lv' := [(4, .int (σ.1 12 i)), (3, .int (n + (fX7_one σ 0))), (0, .ref (q 0)), (1, .int p1), (2, .int p2), (5, .int (nI i))]) hx hb dX7_turns_68 hl (by decide) rfl (fun ls hl => ?_)
            refine lv_iinc (v := nI (i + 1)) (lv' := [(5, .int (nI (i + 1))), (4, .int (σ.1 12 i)), (3, .int (n + (fX7_one σ 0))), (0, .ref (q 0)), (1, .int p1), (2, .int p2)]) hx hb dX7_turns_70 hl (k := 5) rfl (nI_1 i) (by decide) rfl (fun ls hl => ?_)
            refine lv_goto (tgt := 8) hx hb dX7_turns_73 (by decide) ?_
            exact ih (i + 1) (n + (fX7_one σ 0)) (σ.1 12 i) (by omega) (by rw [hE, flX7_turns_8, if_neg c_26, if_pos c_36]) ls (lv_sub hl [3, 4, 5, 0, 2, 1] rfl)
          · refine lv_aload_n hx hb dX7_turns_39 rfl (lv_at hl 0 rfl) ?_
            refine va_get (D := (dC, dI)) (ci := 7) (v := .ref (q 18)) (C := RX7) (T := TX7) (N := 26) hx hb hts inX7 hown hK hP 0 rfl rfl 22 (by decide) (hts _ fl_X7_61) (fun _ h9 => h9) rfl dX7_turns_40 ?_
            refine lv_iload hx hb dX7_turns_43 (lv_at hl 3 rfl) ?_
            refine xa_ild hx hb hK hP 18 0 rfl rfl (by omega) (by decide) dX7_turns_45 ?_
            refine lv_iload hx hb dX7_turns_46 (lv_at hl 5 rfl) ?_
            refine lv_icmp_eq (tgt := 55) hx hb dX7_turns_48 (by decide) (fun c_48 => ?_) (fun c_48 => ?_)
            · refine lv_iconst (v := 0) hx hb dX7_turns_55 (by decide) ?_
              refine xc_i (va_runS (As := [.int 0]) (rest := [.int n]) ⟨hx, hb, hml, hown, hts⟩ (c_X7_one l dC dI cI cJ q σ 0) (va_cwS 1 hts (gS ml_X7_135 st_X7_one in_X7 co_X7_one) rfl rfl rfl (by decide +kernel) ⟨Nat.le_of_ble_eq_true rfl, Nat.le_of_ble_eq_true rfl⟩) (preS hK hP) rfl rfl hl.1 rfl (lv_room (Nat.le_of_ble_eq_true rfl)) dX7_turns_56 ⟨Nat.zero_le _, Nat.zero_le _⟩) ?_
              refine lv_iadd hx hb dX7_turns_59 ?_
              refine lv_istore_n (lv' := [(3, .int (n + (fX7_one σ 0))), (0, .ref (q 0)), (1, .int p1), (2, .int p2), (5, .int (nI i)), (4, .int last)]) hx hb dX7_turns_60 rfl hl (by decide) rfl (fun ls hl => ?_)
              refine lv_aload_n hx hb dX7_turns_61 rfl (lv_at hl 1 rfl) ?_
              refine va_get (D := (dC, dI)) (ci := 7) (v := .ref (q 18)) (C := RX7) (T := TX7) (N := 26) hx hb hts inX7 hown hK hP 0 rfl rfl 22 (by decide) (hts _ fl_X7_61) (fun _ h9 => h9) rfl dX7_turns_62 ?_
              refine lv_iload hx hb dX7_turns_65 (lv_at hl 4 rfl) ?_
              refine xa_ild hx hb hK hP 18 0 rfl rfl (by omega) (by decide) dX7_turns_67 ?_
              refine lv_istore (lv' := [(4, .int (σ.1 12 i)), (3, .int (n + (fX7_one σ 0))), (0, .ref (q 0)), (1, .int p1), (2, .int p2), (5, .int (nI i))]) hx hb dX7_turns_68 hl (by decide) rfl (fun ls hl => ?_)
              refine lv_iinc (v := nI (i + 1)) (lv' := [(5, .int (nI (i + 1))), (4, .int (σ.1 12 i)), (3, .int (n + (fX7_one σ 0))), (0, .ref (q 0)), (1, .int p1), (2, .int p2)]) hx hb dX7_turns_70 hl (k := 5) rfl (nI_1 i) (by decide) rfl (fun ls hl => ?_)
              refine lv_goto (tgt := 8) hx hb dX7_turns_73 (by decide) ?_
              exact ih (i + 1) (n + (fX7_one σ 0)) (σ.1 12 i) (by omega) (by rw [hE, flX7_turns_8, if_neg c_26, if_neg c_36, if_pos c_48]) ls (lv_sub hl [3, 4, 5, 0, 2, 1] rfl)
            · refine lv_iconst (v := 1) hx hb dX7_turns_51 (by decide) ?_
              refine lv_goto (tgt := 56) hx hb dX7_turns_52 (by decide) ?_
              refine xc_i (va_runS (As := [.int 1]) (rest := [.int n]) ⟨hx, hb, hml, hown, hts⟩ (c_X7_one l dC dI cI cJ q σ 1) (va_cwS 1 hts (gS ml_X7_135 st_X7_one in_X7 co_X7_one) rfl rfl rfl (by decide +kernel) ⟨Nat.le_of_ble_eq_true rfl, Nat.le_of_ble_eq_true rfl⟩) (preS hK hP) rfl rfl hl.1 rfl (lv_room (Nat.le_of_ble_eq_true rfl)) dX7_turns_56 ⟨Nat.zero_le _, Nat.zero_le _⟩) ?_
              refine lv_iadd hx hb dX7_turns_59 ?_
              refine lv_istore_n (lv' := [(3, .int (n + (fX7_one σ 1))), (0, .ref (q 0)), (1, .int p1), (2, .int p2), (5, .int (nI i)), (4, .int last)]) hx hb dX7_turns_60 rfl hl (by decide) rfl (fun ls hl => ?_)
              refine lv_aload_n hx hb dX7_turns_61 rfl (lv_at hl 1 rfl) ?_
              refine va_get (D := (dC, dI)) (ci := 7) (v := .ref (q 18)) (C := RX7) (T := TX7) (N := 26) hx hb hts inX7 hown hK hP 0 rfl rfl 22 (by decide) (hts _ fl_X7_61) (fun _ h9 => h9) rfl dX7_turns_62 ?_
              refine lv_iload hx hb dX7_turns_65 (lv_at hl 4 rfl) ?_
              refine xa_ild hx hb hK hP 18 0 rfl rfl (by omega) (by decide) dX7_turns_67 ?_
              refine lv_istore (lv' := [(4, .int (σ.1 12 i)), (3, .int (n + (fX7_one σ 1))), (0, .ref (q 0)), (1, .int p1), (2, .int p2), (5, .int (nI i))]) hx hb dX7_turns_68 hl (by decide) rfl (fun ls hl => ?_)
              refine lv_iinc (v := nI (i + 1)) (lv' := [(5, .int (nI (i + 1))), (4, .int (σ.1 12 i)), (3, .int (n + (fX7_one σ 1))), (0, .ref (q 0)), (1, .int p1), (2, .int p2)]) hx hb dX7_turns_70 hl (k := 5) rfl (nI_1 i) (by decide) rfl (fun ls hl => ?_)
              refine lv_goto (tgt := 8) hx hb dX7_turns_73 (by decide) ?_
              exact ih (i + 1) (n + (fX7_one σ 1)) (σ.1 12 i) (by omega) (by rw [hE, flX7_turns_8, if_neg c_26, if_neg c_36, if_neg c_48]) ls (lv_sub hl [3, 4, 5, 0, 2, 1] rfl)
        · refine lv_goto (tgt := 70) hx hb dX7_turns_29 (by decide) ?_
          refine lv_iinc (v := nI (i + 1)) (lv' := [(5, .int (nI (i + 1))), (0, .ref (q 0)), (1, .int p1), (2, .int p2), (3, .int n), (4, .int last)]) hx hb dX7_turns_70 hl (k := 3) rfl (nI_1 i) (by decide) rfl (fun ls hl => ?_)
          refine lv_goto (tgt := 8) hx hb dX7_turns_73 (by decide) ?_
          exact ih (i + 1) n last (by omega) (by rw [hE, flX7_turns_8, if_pos c_26]) ls (lv_sub hl [1, 2, 3, 0, 4, 5] rfl)
  exact loop_8 ((σ.2.1 3).toNatClampNeg) 0 0 (-1) (by rw [Nat.zero_add]) (by rw [fX7_turns]) ls (lv_sub hl [3, 4, 5, 0, 2, 1] rfl)

def fX7_thing (σ : St) (p1 : Int32) (p2 : Int32) (p3 : Int32) : Int32 :=
  (if (fX7_isIn σ p1 0 ((σ.2.1 1) - 1)) = 0 then (-1) else (if (fX7_isIn σ p2 0 2000) = 0 then (-1) else (if (σ.1 2 p1.toNatClampNeg) ≤ p2 then (if p2 < (σ.1 4 p1.toNatClampNeg) then (if p3 = 0 then σ.1 0 p1.toNatClampNeg else (if p3 = 1 then σ.1 1 p1.toNatClampNeg else (if p3 = 2 then fX7_endBy σ p1 p2 else (if p3 = 3 then 0 else (if p3 = 4 then (-1) else (if p3 = 5 then fX7_turns σ p1 p2 else (-1))))))) else (if p3 = 0 then σ.1 0 p1.toNatClampNeg else (if p3 = 1 then σ.1 1 p1.toNatClampNeg else (if p3 = 2 then fX7_endBy σ p1 p2 else (if p3 = 3 then σ.1 5 p1.toNatClampNeg else (if p3 = 4 then σ.1 6 p1.toNatClampNeg else (if p3 = 5 then fX7_turns σ p1 p2 else (-1)))))))) else (-1))))
set_option maxHeartbeats 4000000 in
set_option maxRecDepth 100000 in
theorem c_X7_thing (l : Launch) (dC : Nat → ClassId) (dI : Nat → Nat → Nat) (cI cJ : ClassId) (q : Nat → Nat) (σ : St) (p1 : Int32) (p2 : Int32) (p3 : Int32) (hI : IB σ) : Met l yX7_thing (.code yX7_thing cX7_thing 5 (some .int) :: tb) { frames := 3, cells := 0, slots := 0, locals := 72 } (Pu (dC, dI) (tyC cI cJ) (wM cI cJ q σ) [.ref (q 0), .int p1, .int p2, .int p3]) (vp_Si (fun r => r = fX7_thing σ p1 p2 p3)) 0 0 (fun _ => False) := by
  refine Met.ofW (cc := cX7_thing) (maxL := 5) (ret := (some .int)) (by decide) rfl ?_
  intro p e s m args below meth c s₁ B hml hv
  obtain ⟨rfl, hP, hK⟩ := hv
  have hx := B.exec
  have hb := B.bytes
  have hr := B.returns
  have hts0 := atoms_spec (ws := .code yX7_thing cX7_thing 5 (some .int) :: tb) B.pre
  have hts : ∀ w ∈ tb, w.before _ s = true := fun w hw => hts0 w (List.mem_cons_of_mem _ hw)
  have hown : s.vm.findClass RX7 = some m.cls := findClass_of_methodNamed B.named
  have hlocks := B.notSynchronized
  have hl := lv_entry ([.ref (q 0), .int p1, .int p2, .int p3]) (n := 5) (Nat.le_of_ble_eq_true rfl)
  rw [lg_entry_eq]
  generalize (lg_sl ([.ref (q 0), .int p1, .int p2, .int p3]) ++ List.replicate (5 - (lg_sl ([.ref (q 0), .int p1, .int p2, .int p3])).length) Slot.unset).toArray = ls at hl ⊢
  have hl : lv_has ls 5 [(0, .ref (q 0)), (1, .int p1), (2, .int p2), (3, .int p3)] := hl
  refine lv_aload_n hx hb dX7_thing_0 rfl (lv_at hl 0 rfl) ?_
  refine lv_iload_n hx hb dX7_thing_1 rfl (lv_at hl 1 rfl) ?_
  refine xc_i (va_runV (As := [.int p1]) (rest := []) ⟨hx, hb, hml, hown, hts⟩ (c_X7_isThing l dC dI cI cJ q σ p1) (cwV 1 hts (gV ml_X7_105 im_X7_isThing se_X7_isThing in_X7 co_X7_isThing) rfl rfl rfl (by decide +kernel) ⟨Nat.le_of_ble_eq_true rfl, Nat.le_of_ble_eq_true rfl⟩) (preV hK hP (pos := 0) (ci := 7) rfl rfl) rfl rfl hl.1 rfl (lv_room (Nat.le_of_ble_eq_true rfl)) dX7_thing_2 ⟨Nat.zero_le _, Nat.zero_le _⟩) ?_
  refine lv_if_eq (tgt := 25) hx hb dX7_thing_5 (by decide) (fun c_5 => ?_) (fun c_5 => ?_)
  · refine lv_iconst (v := (-1)) hx hb dX7_thing_25 (by decide) ?_
    exact W.iret (v := (-1)) hx hb hr (fun t ht hW => ⟨_, rfl, (by rw [fX7_thing, if_pos c_5]), ht⟩) (fun _ h => absurd h List.not_mem_nil) dX7_thing_26
  · refine lv_iload_n hx hb dX7_thing_8 rfl (lv_at hl 2 rfl) ?_
    refine xc_i (va_runS (As := [.int p2]) (rest := []) ⟨hx, hb, hml, hown, hts⟩ (c_X7_isDay l dC dI cI cJ q σ p2) (va_cwS 1 hts (gS ml_X7_95 st_X7_isDay in_X7 co_X7_isDay) rfl rfl rfl (by decide +kernel) ⟨Nat.le_of_ble_eq_true rfl, Nat.le_of_ble_eq_true rfl⟩) (preS hK hP) rfl rfl hl.1 rfl (lv_room (Nat.le_of_ble_eq_true rfl)) dX7_thing_9 ⟨Nat.zero_le _, Nat.zero_le _⟩) ?_
    refine lv_if_eq (tgt := 25) hx hb dX7_thing_12 (by decide) (fun c_12 => ?_) (fun c_12 => ?_)
    · refine lv_iconst (v := (-1)) hx hb dX7_thing_25 (by decide) ?_
      exact W.iret (v := (-1)) hx hb hr (fun t ht hW => ⟨_, rfl, (by rw [fX7_thing, if_neg c_5, if_pos c_12]), ht⟩) (fun _ h => absurd h List.not_mem_nil) dX7_thing_26
    · refine lv_aload_n hx hb dX7_thing_15 rfl (lv_at hl 0 rfl) ?_
      refine va_get (D := (dC, dI)) (ci := 7) (v := .ref (q 3)) (C := RX7) (T := TX7) (N := 26) hx hb hts inX7 hown hK hP 0 rfl rfl 7 (by decide) (hts _ fl_X7_16) (fun _ h9 => h9) rfl dX7_thing_16 ?_
      refine lv_iload_n hx hb dX7_thing_19 rfl (lv_at hl 1 rfl) ?_
      refine va_iald hx hb hK hP 3 0 rfl rfl (isIn_in40 hI c_5) dX7_thing_20 ?_
      refine lv_iload_n hx hb dX7_thing_21 rfl (lv_at hl 2 rfl) ?_
      refine lv_icmp_le (tgt := 27) hx hb dX7_thing_22 (by decide) (fun c_22 => ?_) (fun c_22 => ?_)
      · refine lv_aload_n hx hb dX7_thing_27 rfl (lv_at hl 0 rfl) ?_
        refine va_get (D := (dC, dI)) (ci := 7) (v := .ref (q 5)) (C := RX7) (T := TX7) (N := 26) hx hb hts inX7 hown hK hP 0 rfl rfl 9 (by decide) (hts _ fl_X7_22) (fun _ h9 => h9) rfl dX7_thing_28 ?_
        refine lv_iload_n hx hb dX7_thing_31 rfl (lv_at hl 1 rfl) ?_
        refine va_iald hx hb hK hP 5 0 rfl rfl (isIn_in40 hI c_5) dX7_thing_32 ?_
        refine lv_iload_n hx hb dX7_thing_33 rfl (lv_at hl 2 rfl) ?_
        refine lv_icmp_gt (tgt := 41) hx hb dX7_thing_34 (by decide) (fun c_34 => ?_) (fun c_34 => ?_)
        · refine lv_iconst (v := 0) hx hb dX7_thing_41 (by decide) ?_
          refine lv_istore (lv' := [(4, .int 0), (0, .ref (q 0)), (1, .int p1), (2, .int p2), (3, .int p3)]) hx hb dX7_thing_42 hl (by decide) rfl (fun ls hl => ?_)
          refine lv_iload_n hx hb dX7_thing_44 rfl (lv_at hl 4 rfl) ?_
          by_cases c_45_0 : p3 = 0
          · refine xs_in (tgt := 84) hx hb 0 c_45_0 dX7_thing_45 (by decide) (by decide) rfl (by decide) ?_
            refine lv_aload_n hx hb dX7_thing_84 rfl (lv_at hl 1 rfl) ?_
            refine va_get (D := (dC, dI)) (ci := 7) (v := .ref (q 1)) (C := RX7) (T := TX7) (N := 26) hx hb hts inX7 hown hK hP 0 rfl rfl 5 (by decide) (hts _ fl_X7_7) (fun _ h9 => h9) rfl dX7_thing_85 ?_
            refine lv_iload_n hx hb dX7_thing_88 rfl (lv_at hl 2 rfl) ?_
            refine va_iald hx hb hK hP 1 0 rfl rfl (isIn_in40 hI c_5) dX7_thing_89 ?_
            exact W.iret (v := σ.1 0 p1.toNatClampNeg) hx hb hr (fun t ht hW => ⟨_, rfl, (by rw [fX7_thing, if_neg c_5, if_neg c_12, if_pos c_22, if_pos c_34, if_pos c_45_0]), ht⟩) (fun _ h => absurd h List.not_mem_nil) dX7_thing_90
          by_cases c_45_1 : p3 = 1
          · refine xs_in (tgt := 91) hx hb 1 c_45_1 dX7_thing_45 (by decide) (by decide) rfl (by decide) ?_
            refine lv_aload_n hx hb dX7_thing_91 rfl (lv_at hl 1 rfl) ?_
            refine va_get (D := (dC, dI)) (ci := 7) (v := .ref (q 2)) (C := RX7) (T := TX7) (N := 26) hx hb hts inX7 hown hK hP 0 rfl rfl 6 (by decide) (hts _ fl_X7_13) (fun _ h9 => h9) rfl dX7_thing_92 ?_
            refine lv_iload_n hx hb dX7_thing_95 rfl (lv_at hl 2 rfl) ?_
            refine va_iald hx hb hK hP 2 0 rfl rfl (isIn_in40 hI c_5) dX7_thing_96 ?_
            exact W.iret (v := σ.1 1 p1.toNatClampNeg) hx hb hr (fun t ht hW => ⟨_, rfl, (by rw [fX7_thing, if_neg c_5, if_neg c_12, if_pos c_22, if_pos c_34, if_neg c_45_0, if_pos c_45_1]), ht⟩) (fun _ h => absurd h List.not_mem_nil) dX7_thing_97
          by_cases c_45_2 : p3 = 2
          · refine xs_in (tgt := 98) hx hb 2 c_45_2 dX7_thing_45 (by decide) (by decide) rfl (by decide) ?_
            refine lv_aload_n hx hb dX7_thing_98 rfl (lv_at hl 1 rfl) ?_
            refine lv_iload_n hx hb dX7_thing_99 rfl (lv_at hl 2 rfl) ?_
            refine lv_iload_n hx hb dX7_thing_100 rfl (lv_at hl 3 rfl) ?_
            refine xc_i (va_runV (As := [.int p1, .int p2]) (rest := []) ⟨hx, hb, hml, hown, hts⟩ (c_X7_endBy l dC dI cI cJ q σ p1 p2 (isIn_in40 hI c_5)) (cwV 2 hts (gV ml_X7_84 im_X7_endBy se_X7_endBy in_X7 co_X7_endBy) rfl rfl rfl (by decide +kernel) ⟨Nat.le_of_ble_eq_true rfl, Nat.le_of_ble_eq_true rfl⟩) (preV hK hP (pos := 0) (ci := 7) rfl rfl) rfl rfl hl.1 rfl (lv_room (Nat.le_of_ble_eq_true rfl)) dX7_thing_101 ⟨Nat.zero_le _, Nat.zero_le _⟩) ?_
            exact W.iret (v := fX7_endBy σ p1 p2) hx hb hr (fun t ht hW => ⟨_, rfl, (by rw [fX7_thing, if_neg c_5, if_neg c_12, if_pos c_22, if_pos c_34, if_neg c_45_0, if_neg c_45_1, if_pos c_45_2]), ht⟩) (fun _ h => absurd h List.not_mem_nil) dX7_thing_104
          by_cases c_45_3 : p3 = 3
          · refine xs_in (tgt := 105) hx hb 3 c_45_3 dX7_thing_45 (by decide) (by decide) rfl (by decide) ?_
            refine lv_iload hx hb dX7_thing_105 (lv_at hl 0 rfl) ?_
            refine lv_if_eq (tgt := 119) hx hb dX7_thing_107 (by decide) (fun c_107 => ?_) (fun c_107 => ?_)
            · refine lv_iconst (v := 0) hx hb dX7_thing_119 (by decide) ?_
              exact W.iret (v := 0) hx hb hr (fun t ht hW => ⟨_, rfl, (by rw [fX7_thing, if_neg c_5, if_neg c_12, if_pos c_22, if_pos c_34, if_neg c_45_0, if_neg c_45_1, if_neg c_45_2, if_pos c_45_3]), ht⟩) (fun _ h => absurd h List.not_mem_nil) dX7_thing_120
            · exact absurd (by decide) c_107
          by_cases c_45_4 : p3 = 4
          · refine xs_in (tgt := 121) hx hb 4 c_45_4 dX7_thing_45 (by decide) (by decide) rfl (by decide) ?_
            refine lv_iload hx hb dX7_thing_121 (lv_at hl 0 rfl) ?_
            refine lv_if_eq (tgt := 135) hx hb dX7_thing_123 (by decide) (fun c_123 => ?_) (fun c_123 => ?_)
            · refine lv_iconst (v := (-1)) hx hb dX7_thing_135 (by decide) ?_
              exact W.iret (v := (-1)) hx hb hr (fun t ht hW => ⟨_, rfl, (by rw [fX7_thing, if_neg c_5, if_neg c_12, if_pos c_22, if_pos c_34, if_neg c_45_0, if_neg c_45_1, if_neg c_45_2, if_neg c_45_3, if_pos c_45_4]), ht⟩) (fun _ h => absurd h List.not_mem_nil) dX7_thing_136
            · exact absurd (by decide) c_123
          by_cases c_45_5 : p3 = 5
          · refine xs_in (tgt := 137) hx hb 5 c_45_5 dX7_thing_45 (by decide) (by decide) rfl (by decide) ?_
            refine lv_aload_n hx hb dX7_thing_137 rfl (lv_at hl 1 rfl) ?_
            refine lv_iload_n hx hb dX7_thing_138 rfl (lv_at hl 2 rfl) ?_
            refine lv_iload_n hx hb dX7_thing_139 rfl (lv_at hl 3 rfl) ?_
            refine xc_i (va_runV (As := [.int p1, .int p2]) (rest := []) ⟨hx, hb, hml, hown, hts⟩ (c_X7_turns l dC dI cI cJ q σ p1 p2 (by assumption)) (cwV 2 hts (gV ml_X7_139 im_X7_turns se_X7_turns in_X7 co_X7_turns) rfl rfl rfl (by decide +kernel) ⟨Nat.le_of_ble_eq_true rfl, Nat.le_of_ble_eq_true rfl⟩) (preV hK hP (pos := 0) (ci := 7) rfl rfl) rfl rfl hl.1 rfl (lv_room (Nat.le_of_ble_eq_true rfl)) dX7_thing_140 ⟨Nat.zero_le _, Nat.zero_le _⟩) ?_
            exact W.iret (v := fX7_turns σ p1 p2) hx hb hr (fun t ht hW => ⟨_, rfl, (by rw [fX7_thing, if_neg c_5, if_neg c_12, if_pos c_22, if_pos c_34, if_neg c_45_0, if_neg c_45_1, if_neg c_45_2, if_neg c_45_3, if_neg c_45_4, if_pos c_45_5]), ht⟩) (fun _ h => absurd h List.not_mem_nil) dX7_thing_143
          refine lv_tableOut (tgt := 144) hx hb dX7_thing_45 (xs_out (n := 6) (by decide) (fun k hk => by
              match k, hk with
              | 0, _ => exact c_45_0
              | 1, _ => exact c_45_1
              | 2, _ => exact c_45_2
              | 3, _ => exact c_45_3
              | 4, _ => exact c_45_4
              | 5, _ => exact c_45_5
              | k + 6, h => exact absurd h (by omega))) (by decide) ?_
          refine lv_iconst (v := (-1)) hx hb dX7_thing_144 (by decide) ?_
          exact W.iret (v := (-1)) hx hb hr (fun t ht hW => ⟨_, rfl, (by rw [fX7_thing, if_neg c_5, if_neg c_12, if_pos c_22, if_pos c_34, if_neg c_45_0, if_neg c_45_1, if_neg c_45_2, if_neg c_45_3, if_neg c_45_4, if_neg c_45_5]), ht⟩) (fun _ h => absurd h List.not_mem_nil) dX7_thing_145
        · refine lv_iconst (v := 1) hx hb dX7_thing_37 (by decide) ?_
          refine lv_goto (tgt := 42) hx hb dX7_thing_38 (by decide) ?_
          refine lv_istore (lv' := [(4, .int 1), (0, .ref (q 0)), (1, .int p1), (2, .int p2), (3, .int p3)]) hx hb dX7_thing_42 hl (by decide) rfl (fun ls hl => ?_)
          refine lv_iload_n hx hb dX7_thing_44 rfl (lv_at hl 4 rfl) ?_
          by_cases c_45_0 : p3 = 0
          · refine xs_in (tgt := 84) hx hb 0 c_45_0 dX7_thing_45 (by decide) (by decide) rfl (by decide) ?_
            refine lv_aload_n hx hb dX7_thing_84 rfl (lv_at hl 1 rfl) ?_
            refine va_get (D := (dC, dI)) (ci := 7) (v := .ref (q 1)) (C := RX7) (T := TX7) (N := 26) hx hb hts inX7 hown hK hP 0 rfl rfl 5 (by decide) (hts _ fl_X7_7) (fun _ h9 => h9) rfl dX7_thing_85 ?_
            refine lv_iload_n hx hb dX7_thing_88 rfl (lv_at hl 2 rfl) ?_
            refine va_iald hx hb hK hP 1 0 rfl rfl (isIn_in40 hI c_5) dX7_thing_89 ?_
            exact W.iret (v := σ.1 0 p1.toNatClampNeg) hx hb hr (fun t ht hW => ⟨_, rfl, (by rw [fX7_thing, if_neg c_5, if_neg c_12, if_pos c_22, if_neg c_34, if_pos c_45_0]), ht⟩) (fun _ h => absurd h List.not_mem_nil) dX7_thing_90
          by_cases c_45_1 : p3 = 1
          · refine xs_in (tgt := 91) hx hb 1 c_45_1 dX7_thing_45 (by decide) (by decide) rfl (by decide) ?_
            refine lv_aload_n hx hb dX7_thing_91 rfl (lv_at hl 1 rfl) ?_
            refine va_get (D := (dC, dI)) (ci := 7) (v := .ref (q 2)) (C := RX7) (T := TX7) (N := 26) hx hb hts inX7 hown hK hP 0 rfl rfl 6 (by decide) (hts _ fl_X7_13) (fun _ h9 => h9) rfl dX7_thing_92 ?_
            refine lv_iload_n hx hb dX7_thing_95 rfl (lv_at hl 2 rfl) ?_
            refine va_iald hx hb hK hP 2 0 rfl rfl (isIn_in40 hI c_5) dX7_thing_96 ?_
            exact W.iret (v := σ.1 1 p1.toNatClampNeg) hx hb hr (fun t ht hW => ⟨_, rfl, (by rw [fX7_thing, if_neg c_5, if_neg c_12, if_pos c_22, if_neg c_34, if_neg c_45_0, if_pos c_45_1]), ht⟩) (fun _ h => absurd h List.not_mem_nil) dX7_thing_97
          by_cases c_45_2 : p3 = 2
          · refine xs_in (tgt := 98) hx hb 2 c_45_2 dX7_thing_45 (by decide) (by decide) rfl (by decide) ?_
            refine lv_aload_n hx hb dX7_thing_98 rfl (lv_at hl 1 rfl) ?_
            refine lv_iload_n hx hb dX7_thing_99 rfl (lv_at hl 2 rfl) ?_
            refine lv_iload_n hx hb dX7_thing_100 rfl (lv_at hl 3 rfl) ?_
            refine xc_i (va_runV (As := [.int p1, .int p2]) (rest := []) ⟨hx, hb, hml, hown, hts⟩ (c_X7_endBy l dC dI cI cJ q σ p1 p2 (isIn_in40 hI c_5)) (cwV 2 hts (gV ml_X7_84 im_X7_endBy se_X7_endBy in_X7 co_X7_endBy) rfl rfl rfl (by decide +kernel) ⟨Nat.le_of_ble_eq_true rfl, Nat.le_of_ble_eq_true rfl⟩) (preV hK hP (pos := 0) (ci := 7) rfl rfl) rfl rfl hl.1 rfl (lv_room (Nat.le_of_ble_eq_true rfl)) dX7_thing_101 ⟨Nat.zero_le _, Nat.zero_le _⟩) ?_
            exact W.iret (v := fX7_endBy σ p1 p2) hx hb hr (fun t ht hW => ⟨_, rfl, (by rw [fX7_thing, if_neg c_5, if_neg c_12, if_pos c_22, if_neg c_34, if_neg c_45_0, if_neg c_45_1, if_pos c_45_2]), ht⟩) (fun _ h => absurd h List.not_mem_nil) dX7_thing_104
          by_cases c_45_3 : p3 = 3
          · refine xs_in (tgt := 105) hx hb 3 c_45_3 dX7_thing_45 (by decide) (by decide) rfl (by decide) ?_
            refine lv_iload hx hb dX7_thing_105 (lv_at hl 0 rfl) ?_
            refine lv_if_eq (tgt := 119) hx hb dX7_thing_107 (by decide) (fun c_107 => ?_) (fun c_107 => ?_)
            · exact absurd c_107 (by decide)
            · refine lv_aload_n hx hb dX7_thing_110 rfl (lv_at hl 1 rfl) ?_
              refine va_get (D := (dC, dI)) (ci := 7) (v := .ref (q 6)) (C := RX7) (T := TX7) (N := 26) hx hb hts inX7 hown hK hP 0 rfl rfl 10 (by decide) (hts _ fl_X7_25) (fun _ h9 => h9) rfl dX7_thing_111 ?_
              refine lv_iload_n hx hb dX7_thing_114 rfl (lv_at hl 2 rfl) ?_
              refine va_iald hx hb hK hP 6 0 rfl rfl (isIn_in40 hI c_5) dX7_thing_115 ?_
              refine lv_goto (tgt := 120) hx hb dX7_thing_116 (by decide) ?_
              exact W.iret (v := σ.1 5 p1.toNatClampNeg) hx hb hr (fun t ht hW => ⟨_, rfl, (by rw [fX7_thing, if_neg c_5, if_neg c_12, if_pos c_22, if_neg c_34, if_neg c_45_0, if_neg c_45_1, if_neg c_45_2, if_pos c_45_3]), ht⟩) (fun _ h => absurd h List.not_mem_nil) dX7_thing_120
          by_cases c_45_4 : p3 = 4
          · refine xs_in (tgt := 121) hx hb 4 c_45_4 dX7_thing_45 (by decide) (by decide) rfl (by decide) ?_
            refine lv_iload hx hb dX7_thing_121 (lv_at hl 0 rfl) ?_
            refine lv_if_eq (tgt := 135) hx hb dX7_thing_123 (by decide) (fun c_123 => ?_) (fun c_123 => ?_)
            · exact absurd c_123 (by decide)
            · refine lv_aload_n hx hb dX7_thing_126 rfl (lv_at hl 1 rfl) ?_
              refine va_get (D := (dC, dI)) (ci := 7) (v := .ref (q 7)) (C := RX7) (T := TX7) (N := 26) hx hb hts inX7 hown hK hP 0 rfl rfl 11 (by decide) (hts _ fl_X7_28) (fun _ h9 => h9) rfl dX7_thing_127 ?_
              refine lv_iload_n hx hb dX7_thing_130 rfl (lv_at hl 2 rfl) ?_
              refine va_iald hx hb hK hP 7 0 rfl rfl (isIn_in40 hI c_5) dX7_thing_131 ?_
              refine lv_goto (tgt := 136) hx hb dX7_thing_132 (by decide) ?_
              exact W.iret (v := σ.1 6 p1.toNatClampNeg) hx hb hr (fun t ht hW => ⟨_, rfl, (by rw [fX7_thing, if_neg c_5, if_neg c_12, if_pos c_22, if_neg c_34, if_neg c_45_0, if_neg c_45_1, if_neg c_45_2, if_neg c_45_3, if_pos c_45_4]), ht⟩) (fun _ h => absurd h List.not_mem_nil) dX7_thing_136
          by_cases c_45_5 : p3 = 5
          · refine xs_in (tgt := 137) hx hb 5 c_45_5 dX7_thing_45 (by decide) (by decide) rfl (by decide) ?_
            refine lv_aload_n hx hb dX7_thing_137 rfl (lv_at hl 1 rfl) ?_
            refine lv_iload_n hx hb dX7_thing_138 rfl (lv_at hl 2 rfl) ?_
            refine lv_iload_n hx hb dX7_thing_139 rfl (lv_at hl 3 rfl) ?_
            refine xc_i (va_runV (As := [.int p1, .int p2]) (rest := []) ⟨hx, hb, hml, hown, hts⟩ (c_X7_turns l dC dI cI cJ q σ p1 p2 (by assumption)) (cwV 2 hts (gV ml_X7_139 im_X7_turns se_X7_turns in_X7 co_X7_turns) rfl rfl rfl (by decide +kernel) ⟨Nat.le_of_ble_eq_true rfl, Nat.le_of_ble_eq_true rfl⟩) (preV hK hP (pos := 0) (ci := 7) rfl rfl) rfl rfl hl.1 rfl (lv_room (Nat.le_of_ble_eq_true rfl)) dX7_thing_140 ⟨Nat.zero_le _, Nat.zero_le _⟩) ?_
            exact W.iret (v := fX7_turns σ p1 p2) hx hb hr (fun t ht hW => ⟨_, rfl, (by rw [fX7_thing, if_neg c_5, if_neg c_12, if_pos c_22, if_neg c_34, if_neg c_45_0, if_neg c_45_1, if_neg c_45_2, if_neg c_45_3, if_neg c_45_4, if_pos c_45_5]), ht⟩) (fun _ h => absurd h List.not_mem_nil) dX7_thing_143
          refine lv_tableOut (tgt := 144) hx hb dX7_thing_45 (xs_out (n := 6) (by decide) (fun k hk => by
              match k, hk with
              | 0, _ => exact c_45_0
              | 1, _ => exact c_45_1
              | 2, _ => exact c_45_2
              | 3, _ => exact c_45_3
              | 4, _ => exact c_45_4
              | 5, _ => exact c_45_5
              | k + 6, h => exact absurd h (by omega))) (by decide) ?_
          refine lv_iconst (v := (-1)) hx hb dX7_thing_144 (by decide) ?_
          exact W.iret (v := (-1)) hx hb hr (fun t ht hW => ⟨_, rfl, (by rw [fX7_thing, if_neg c_5, if_neg c_12, if_pos c_22, if_neg c_34, if_neg c_45_0, if_neg c_45_1, if_neg c_45_2, if_neg c_45_3, if_neg c_45_4, if_neg c_45_5]), ht⟩) (fun _ h => absurd h List.not_mem_nil) dX7_thing_145
      · refine lv_iconst (v := (-1)) hx hb dX7_thing_25 (by decide) ?_
        exact W.iret (v := (-1)) hx hb hr (fun t ht hW => ⟨_, rfl, (by rw [fX7_thing, if_neg c_5, if_neg c_12, if_neg c_22]), ht⟩) (fun _ h => absurd h List.not_mem_nil) dX7_thing_26

def fX7_fact (σ : St) (p1 : Int32) (p2 : Int32) (p3 : Int32) : Int32 × St :=
  (if (fX7_isIn σ p1 0 99) = 0 then ((-1), σ) else (if (fX7_isIn σ p2 0 2000) = 0 then ((-1), σ) else (if (fX7_isIn σ p3 (-10000) 10000) = 0 then ((-1), σ) else (if (σ.2.1 2) = 200 then ((-1), σ) else (((σ.2.1 2) + 1) - 1, (sV (sI (sI (sI (sI (sI σ 15 ((σ.2.1 2).toNatClampNeg) p1) 16 ((σ.2.1 2).toNatClampNeg) p2) 17 ((σ.2.1 2).toNatClampNeg) p3) 18 ((σ.2.1 2).toNatClampNeg) (σ.2.1 0)) 19 ((σ.2.1 2).toNatClampNeg) (σ.2.1 4)) 2 ((σ.2.1 2) + 1)))))))
set_option maxHeartbeats 4000000 in
set_option maxRecDepth 100000 in
theorem c_X7_fact (l : Launch) (dC : Nat → ClassId) (dI : Nat → Nat → Nat) (cI cJ : ClassId) (q : Nat → Nat) (σ : St) (p1 : Int32) (p2 : Int32) (p3 : Int32) (hd : dT 22 q) (hI : IB σ) : Met l yX7_fact (.code yX7_fact cX7_fact 4 (some .int) :: tb) { frames := 2, cells := 0, slots := 0, locals := 42 } (Pu (dC, dI) (tyC cI cJ) (wM cI cJ q σ) [.ref (q 0), .int p1, .int p2, .int p3]) (xw_Q (some (.int (fX7_fact σ p1 p2 p3).1)) (dC, dI) (wM cI cJ q (fX7_fact σ p1 p2 p3).2) (aT 22 q)) 0 0 (aT 22 q) := by
  refine Met.ofW (cc := cX7_fact) (maxL := 4) (ret := (some .int)) (by decide) rfl ?_
  intro p e s m args below meth c s₁ B hml hv
  obtain ⟨rfl, hP, hK⟩ := hv
  have hx := B.exec
  have hb := B.bytes
  have hr := B.returns
  have hts0 := atoms_spec (ws := .code yX7_fact cX7_fact 4 (some .int) :: tb) B.pre
  have hts : ∀ w ∈ tb, w.before _ s = true := fun w hw => hts0 w (List.mem_cons_of_mem _ hw)
  have hown : s.vm.findClass RX7 = some m.cls := findClass_of_methodNamed B.named
  have hlocks := B.notSynchronized
  have hl := lv_entry ([.ref (q 0), .int p1, .int p2, .int p3]) (n := 4) (Nat.le_of_ble_eq_true rfl)
  rw [lg_entry_eq]
  generalize (lg_sl ([.ref (q 0), .int p1, .int p2, .int p3]) ++ List.replicate (4 - (lg_sl ([.ref (q 0), .int p1, .int p2, .int p3])).length) Slot.unset).toArray = ls at hl ⊢
  have hl : lv_has ls 4 [(0, .ref (q 0)), (1, .int p1), (2, .int p2), (3, .int p3)] := hl
  obtain ⟨H, hHe⟩ : ∃ H, s.heap = H := ⟨_, rfl⟩
  rw [hHe] at hP ⊢
  obtain ⟨locs, hLe⟩ : ∃ x : List Loc, ([] : List Loc) = x := ⟨_, rfl⟩
  rw [hLe]
  have hS : va_S (aT 22 q) s.heap H locs := by rw [← hHe, ← hLe]; exact va_S.rf
  refine lv_iload_n hx hb dX7_fact_0 rfl (lv_at hl 1 rfl) ?_
  refine xc_i (va_runS (As := [.int p1]) (rest := []) ⟨hx, hb, hml, hown, hts⟩ (c_X7_isCode l dC dI cI cJ q σ p1) (va_cwS 1 hts (gS ml_X7_91 st_X7_isCode in_X7 co_X7_isCode) rfl rfl rfl (by decide +kernel) ⟨Nat.le_of_ble_eq_true rfl, Nat.le_of_ble_eq_true rfl⟩) (preS hK hP) rfl rfl hl.1 rfl (lv_room (Nat.le_of_ble_eq_true rfl)) dX7_fact_1 ⟨Nat.zero_le _, Nat.zero_le _⟩) ?_
  refine lv_if_eq (tgt := 37) hx hb dX7_fact_4 (by decide) (fun c_4 => ?_) (fun c_4 => ?_)
  · refine lv_iconst (v := (-1)) hx hb dX7_fact_37 (by decide) ?_
    have hF : fX7_fact σ p1 p2 p3 = ((-1), σ) := by rw [fX7_fact, if_pos c_4]
    have hP9 : va_P (dC, dI) vwCl (wM cI cJ q (fX7_fact σ p1 p2 p3).2) H := by rw [hF]; exact hP
    exact W.iret (v := (-1)) hx hb hr (fun t ht hW => ⟨(by rw [hF]), by rw [ht]; exact hP9, hS.F ht⟩) hS.2.2 dX7_fact_38
  · refine lv_iload_n hx hb dX7_fact_7 rfl (lv_at hl 2 rfl) ?_
    refine xc_i (va_runS (As := [.int p2]) (rest := []) ⟨hx, hb, hml, hown, hts⟩ (c_X7_isDay l dC dI cI cJ q σ p2) (va_cwS 1 hts (gS ml_X7_95 st_X7_isDay in_X7 co_X7_isDay) rfl rfl rfl (by decide +kernel) ⟨Nat.le_of_ble_eq_true rfl, Nat.le_of_ble_eq_true rfl⟩) (preS hK hP) rfl rfl hl.1 rfl (lv_room (Nat.le_of_ble_eq_true rfl)) dX7_fact_8 ⟨Nat.zero_le _, Nat.zero_le _⟩) ?_
    refine lv_if_eq (tgt := 37) hx hb dX7_fact_11 (by decide) (fun c_11 => ?_) (fun c_11 => ?_)
    · refine lv_iconst (v := (-1)) hx hb dX7_fact_37 (by decide) ?_
      have hF : fX7_fact σ p1 p2 p3 = ((-1), σ) := by rw [fX7_fact, if_neg c_4, if_pos c_11]
      have hP9 : va_P (dC, dI) vwCl (wM cI cJ q (fX7_fact σ p1 p2 p3).2) H := by rw [hF]; exact hP
      exact W.iret (v := (-1)) hx hb hr (fun t ht hW => ⟨(by rw [hF]), by rw [ht]; exact hP9, hS.F ht⟩) hS.2.2 dX7_fact_38
    · refine lv_iload_n hx hb dX7_fact_14 rfl (lv_at hl 3 rfl) ?_
      refine lv_sipush (v := (-10000)) hx hb dX7_fact_15 (by decide) ?_
      refine lv_sipush (v := 10000) hx hb dX7_fact_18 (by decide) ?_
      refine xc_i (va_runS (As := [.int p3, .int (-10000), .int 10000]) (rest := []) ⟨hx, hb, hml, hown, hts⟩ (c_X7_isIn l dC dI cI cJ q σ p3 (-10000) 10000) (va_cwS 3 hts (gS ml_X7_73 st_X7_isIn in_X7 co_X7_isIn) rfl rfl rfl (by decide +kernel) ⟨Nat.le_of_ble_eq_true rfl, Nat.le_of_ble_eq_true rfl⟩) (preS hK hP) rfl rfl hl.1 rfl (lv_room (Nat.le_of_ble_eq_true rfl)) dX7_fact_21 ⟨Nat.zero_le _, Nat.zero_le _⟩) ?_
      refine lv_if_eq (tgt := 37) hx hb dX7_fact_24 (by decide) (fun c_24 => ?_) (fun c_24 => ?_)
      · refine lv_iconst (v := (-1)) hx hb dX7_fact_37 (by decide) ?_
        have hF : fX7_fact σ p1 p2 p3 = ((-1), σ) := by rw [fX7_fact, if_neg c_4, if_neg c_11, if_pos c_24]
        have hP9 : va_P (dC, dI) vwCl (wM cI cJ q (fX7_fact σ p1 p2 p3).2) H := by rw [hF]; exact hP
        exact W.iret (v := (-1)) hx hb hr (fun t ht hW => ⟨(by rw [hF]), by rw [ht]; exact hP9, hS.F ht⟩) hS.2.2 dX7_fact_38
      · refine lv_aload_n hx hb dX7_fact_27 rfl (lv_at hl 0 rfl) ?_
        refine va_get (D := (dC, dI)) (ci := 7) (v := .int (σ.2.1 2)) (C := RX7) (T := TX7) (N := 26) hx hb hts inX7 hown hK hP 0 rfl rfl 2 (by decide) (hts _ fl_X7_142) (fun _ h9 => h9) rfl dX7_fact_28 ?_
        refine lv_sipush (v := 200) hx hb dX7_fact_31 (by decide) ?_
        refine lv_icmp_ne (tgt := 39) hx hb dX7_fact_34 (by decide) (fun c_34 => ?_) (fun c_34 => ?_)
        · refine lv_aload_n hx hb dX7_fact_39 rfl (lv_at hl 0 rfl) ?_
          refine va_get (D := (dC, dI)) (ci := 7) (v := .ref (q 10)) (C := RX7) (T := TX7) (N := 26) hx hb hts inX7 hown hK hP 0 rfl rfl 14 (by decide) (hts _ fl_X7_37) (fun _ h9 => h9) rfl dX7_fact_40 ?_
          refine lv_aload_n hx hb dX7_fact_43 rfl (lv_at hl 0 rfl) ?_
          refine va_get (D := (dC, dI)) (ci := 7) (v := .int (σ.2.1 2)) (C := RX7) (T := TX7) (N := 26) hx hb hts inX7 hown hK hP 0 rfl rfl 2 (by decide) (hts _ fl_X7_142) (fun _ h9 => h9) rfl dX7_fact_44 ?_
          refine lv_iload_n hx hb dX7_fact_47 rfl (lv_at hl 1 rfl) ?_
          refine va_iast hx hb hK hP (wM_D hd) hS 10 0 rfl rfl (sz_ne hI.2.1 (by decide) c_34) dX7_fact_48 (fun H locs hP _ hS => ?_)
          have hP : va_P (dC, dI) vwCl (wM cI cJ q (sI σ 15 ((σ.2.1 2).toNatClampNeg) p1)) H := hP
          refine lv_aload_n hx hb dX7_fact_49 rfl (lv_at hl 0 rfl) ?_
          refine va_get (D := (dC, dI)) (ci := 7) (v := .ref (q 11)) (C := RX7) (T := TX7) (N := 26) hx hb hts inX7 hown hK hP 0 rfl rfl 15 (by decide) (hts _ fl_X7_40) (fun _ h9 => h9) rfl dX7_fact_50 ?_
          refine lv_aload_n hx hb dX7_fact_53 rfl (lv_at hl 0 rfl) ?_
          refine va_get (D := (dC, dI)) (ci := 7) (v := .int (σ.2.1 2)) (C := RX7) (T := TX7) (N := 26) hx hb hts inX7 hown hK hP 0 rfl rfl 2 (by decide) (hts _ fl_X7_142) (fun _ h9 => h9) rfl dX7_fact_54 ?_
          refine lv_iload_n hx hb dX7_fact_57 rfl (lv_at hl 2 rfl) ?_
          refine va_iast hx hb hK hP (wM_D hd) hS 11 0 rfl rfl (sz_ne hI.2.1 (by decide) c_34) dX7_fact_58 (fun H locs hP _ hS => ?_)
          have hP : va_P (dC, dI) vwCl (wM cI cJ q (sI (sI σ 15 ((σ.2.1 2).toNatClampNeg) p1) 16 ((σ.2.1 2).toNatClampNeg) p2)) H := hP
          refine lv_aload_n hx hb dX7_fact_59 rfl (lv_at hl 0 rfl) ?_
          refine va_get (D := (dC, dI)) (ci := 7) (v := .ref (q 12)) (C := RX7) (T := TX7) (N := 26) hx hb hts inX7 hown hK hP 0 rfl rfl 16 (by decide) (hts _ fl_X7_43) (fun _ h9 => h9) rfl dX7_fact_60 ?_
          refine lv_aload_n hx hb dX7_fact_63 rfl (lv_at hl 0 rfl) ?_
          refine va_get (D := (dC, dI)) (ci := 7) (v := .int (σ.2.1 2)) (C := RX7) (T := TX7) (N := 26) hx hb hts inX7 hown hK hP 0 rfl rfl 2 (by decide) (hts _ fl_X7_142) (fun _ h9 => h9) rfl dX7_fact_64 ?_
          refine lv_iload_n hx hb dX7_fact_67 rfl (lv_at hl 3 rfl) ?_
          refine va_iast hx hb hK hP (wM_D hd) hS 12 0 rfl rfl (sz_ne hI.2.1 (by decide) c_34) dX7_fact_68 (fun H locs hP _ hS => ?_)
          have hP : va_P (dC, dI) vwCl (wM cI cJ q (sI (sI (sI σ 15 ((σ.2.1 2).toNatClampNeg) p1) 16 ((σ.2.1 2).toNatClampNeg) p2) 17 ((σ.2.1 2).toNatClampNeg) p3)) H := hP
          refine lv_aload_n hx hb dX7_fact_69 rfl (lv_at hl 0 rfl) ?_
          refine va_get (D := (dC, dI)) (ci := 7) (v := .ref (q 13)) (C := RX7) (T := TX7) (N := 26) hx hb hts inX7 hown hK hP 0 rfl rfl 17 (by decide) (hts _ fl_X7_46) (fun _ h9 => h9) rfl dX7_fact_70 ?_
          refine lv_aload_n hx hb dX7_fact_73 rfl (lv_at hl 0 rfl) ?_
          refine va_get (D := (dC, dI)) (ci := 7) (v := .int (σ.2.1 2)) (C := RX7) (T := TX7) (N := 26) hx hb hts inX7 hown hK hP 0 rfl rfl 2 (by decide) (hts _ fl_X7_142) (fun _ h9 => h9) rfl dX7_fact_74 ?_
          refine lv_aload_n hx hb dX7_fact_77 rfl (lv_at hl 0 rfl) ?_
          refine va_get (D := (dC, dI)) (ci := 7) (v := .int (σ.2.1 0)) (C := RX7) (T := TX7) (N := 26) hx hb hts inX7 hown hK hP 0 rfl rfl 0 (by decide) (hts _ fl_X7_81) (fun _ h9 => h9) rfl dX7_fact_78 ?_
          refine va_iast hx hb hK hP (wM_D hd) hS 13 0 rfl rfl (sz_ne hI.2.1 (by decide) c_34) dX7_fact_81 (fun H locs hP _ hS => ?_)
          have hP : va_P (dC, dI) vwCl (wM cI cJ q (sI (sI (sI (sI σ 15 ((σ.2.1 2).toNatClampNeg) p1) 16 ((σ.2.1 2).toNatClampNeg) p2) 17 ((σ.2.1 2).toNatClampNeg) p3) 18 ((σ.2.1 2).toNatClampNeg) (σ.2.1 0))) H := hP
          refine lv_aload_n hx hb dX7_fact_82 rfl (lv_at hl 0 rfl) ?_
          refine va_get (D := (dC, dI)) (ci := 7) (v := .ref (q 14)) (C := RX7) (T := TX7) (N := 26) hx hb hts inX7 hown hK hP 0 rfl rfl 18 (by decide) (hts _ fl_X7_49) (fun _ h9 => h9) rfl dX7_fact_83 ?_
          refine lv_aload_n hx hb dX7_fact_86 rfl (lv_at hl 0 rfl) ?_
          refine va_get (D := (dC, dI)) (ci := 7) (v := .int (σ.2.1 2)) (C := RX7) (T := TX7) (N := 26) hx hb hts inX7 hown hK hP 0 rfl rfl 2 (by decide) (hts _ fl_X7_142) (fun _ h9 => h9) rfl dX7_fact_87 ?_
          refine lv_aload_n hx hb dX7_fact_90 rfl (lv_at hl 0 rfl) ?_
          refine va_get (D := (dC, dI)) (ci := 7) (v := .int (σ.2.1 4)) (C := RX7) (T := TX7) (N := 26) hx hb hts inX7 hown hK hP 0 rfl rfl 4 (by decide) (hts _ fl_X7_128) (fun _ h9 => h9) rfl dX7_fact_91 ?_
          refine va_iast hx hb hK hP (wM_D hd) hS 14 0 rfl rfl (sz_ne hI.2.1 (by decide) c_34) dX7_fact_94 (fun H locs hP _ hS => ?_)
          have hP : va_P (dC, dI) vwCl (wM cI cJ q (sI (sI (sI (sI (sI σ 15 ((σ.2.1 2).toNatClampNeg) p1) 16 ((σ.2.1 2).toNatClampNeg) p2) 17 ((σ.2.1 2).toNatClampNeg) p3) 18 ((σ.2.1 2).toNatClampNeg) (σ.2.1 0)) 19 ((σ.2.1 2).toNatClampNeg) (σ.2.1 4))) H := hP
          refine lv_aload_n hx hb dX7_fact_95 rfl (lv_at hl 0 rfl) ?_
          refine lv_dup hx hb dX7_fact_96 rfl ?_
          refine va_get (D := (dC, dI)) (ci := 7) (v := .int (σ.2.1 2)) (C := RX7) (T := TX7) (N := 26) hx hb hts inX7 hown hK hP 0 rfl rfl 2 (by decide) (hts _ fl_X7_142) (fun _ h9 => h9) rfl dX7_fact_97 ?_
          refine lv_iconst (v := 1) hx hb dX7_fact_100 (by decide) ?_
          refine lv_iadd hx hb dX7_fact_101 ?_
          refine va_put (D := (dC, dI)) (ci := 7) (v := .int ((σ.2.1 2) + 1)) (ty := .int) (C := RX7) (T := TX7) (N := 26) hx hb hts inX7 tyX7 tyX7_ok nmX7 hown hK hP (wM_D hd) hS 0 rfl rfl 2 (by decide) (hts _ fl_X7_142) (fun _ h9 => h9) rfl (by decide +kernel) rfl rfl (Nat.le_of_ble_eq_true rfl) dX7_fact_102 (fun H locs hP _ hS => ?_)
          have hP : va_P (dC, dI) vwCl (wM cI cJ q (sV (sI (sI (sI (sI (sI σ 15 ((σ.2.1 2).toNatClampNeg) p1) 16 ((σ.2.1 2).toNatClampNeg) p2) 17 ((σ.2.1 2).toNatClampNeg) p3) 18 ((σ.2.1 2).toNatClampNeg) (σ.2.1 0)) 19 ((σ.2.1 2).toNatClampNeg) (σ.2.1 4)) 2 ((σ.2.1 2) + 1))) H := hP
          refine lv_aload_n hx hb dX7_fact_105 rfl (lv_at hl 0 rfl) ?_
          refine va_get (D := (dC, dI)) (ci := 7) (v := .int ((σ.2.1 2) + 1)) (C := RX7) (T := TX7) (N := 26) hx hb hts inX7 hown hK hP 0 rfl rfl 2 (by decide) (hts _ fl_X7_142) (fun _ h9 => h9) rfl dX7_fact_106 ?_
          refine lv_iconst (v := 1) hx hb dX7_fact_109 (by decide) ?_
          refine lv_isub hx hb dX7_fact_110 ?_
          have hF : fX7_fact σ p1 p2 p3 = (((σ.2.1 2) + 1) - 1, (sV (sI (sI (sI (sI (sI σ 15 ((σ.2.1 2).toNatClampNeg) p1) 16 ((σ.2.1 2).toNatClampNeg) p2) 17 ((σ.2.1 2).toNatClampNeg) p3) 18 ((σ.2.1 2).toNatClampNeg) (σ.2.1 0)) 19 ((σ.2.1 2).toNatClampNeg) (σ.2.1 4)) 2 ((σ.2.1 2) + 1))) := by rw [fX7_fact, if_neg c_4, if_neg c_11, if_neg c_24, if_neg c_34]
          have hP9 : va_P (dC, dI) vwCl (wM cI cJ q (fX7_fact σ p1 p2 p3).2) H := by rw [hF]; exact hP
          exact W.iret (v := ((σ.2.1 2) + 1) - 1) hx hb hr (fun t ht hW => ⟨(by rw [hF]), by rw [ht]; exact hP9, hS.F ht⟩) hS.2.2 dX7_fact_111
        · refine lv_iconst (v := (-1)) hx hb dX7_fact_37 (by decide) ?_
          have hF : fX7_fact σ p1 p2 p3 = ((-1), σ) := by rw [fX7_fact, if_neg c_4, if_neg c_11, if_neg c_24, if_pos c_34]
          have hP9 : va_P (dC, dI) vwCl (wM cI cJ q (fX7_fact σ p1 p2 p3).2) H := by rw [hF]; exact hP
          exact W.iret (v := (-1)) hx hb hr (fun t ht hW => ⟨(by rw [hF]), by rw [ht]; exact hP9, hS.F ht⟩) hS.2.2 dX7_fact_38

def fX7_load (σ : St) : Int32 × St :=
  (if (σ.2.1 4) = 39 then ((-1), σ) else ((σ.2.1 4) + 1, (sV σ 4 ((σ.2.1 4) + 1))))
set_option maxHeartbeats 4000000 in
set_option maxRecDepth 100000 in
theorem c_X7_load (l : Launch) (dC : Nat → ClassId) (dI : Nat → Nat → Nat) (cI cJ : ClassId) (q : Nat → Nat) (σ : St) (hd : dT 22 q) : Met l yX7_load (.code yX7_load cX7_load 1 (some .int) :: tb) { frames := 0, cells := 0, slots := 0, locals := 0 } (Pu (dC, dI) (tyC cI cJ) (wM cI cJ q σ) [.ref (q 0)]) (xw_Q (some (.int (fX7_load σ).1)) (dC, dI) (wM cI cJ q (fX7_load σ).2) (aT 22 q)) 0 0 (aT 22 q) := by
  refine Met.ofW (cc := cX7_load) (maxL := 1) (ret := (some .int)) (by decide) rfl ?_
  intro p e s m args below meth c s₁ B hml hv
  obtain ⟨rfl, hP, hK⟩ := hv
  have hx := B.exec
  have hb := B.bytes
  have hr := B.returns
  have hts0 := atoms_spec (ws := .code yX7_load cX7_load 1 (some .int) :: tb) B.pre
  have hts : ∀ w ∈ tb, w.before _ s = true := fun w hw => hts0 w (List.mem_cons_of_mem _ hw)
  have hown : s.vm.findClass RX7 = some m.cls := findClass_of_methodNamed B.named
  have hlocks := B.notSynchronized
  have hl := lv_entry ([.ref (q 0)]) (n := 1) (Nat.le_of_ble_eq_true rfl)
  rw [lg_entry_eq]
  generalize (lg_sl ([.ref (q 0)]) ++ List.replicate (1 - (lg_sl ([.ref (q 0)])).length) Slot.unset).toArray = ls at hl ⊢
  have hl : lv_has ls 1 [(0, .ref (q 0))] := hl
  obtain ⟨H, hHe⟩ : ∃ H, s.heap = H := ⟨_, rfl⟩
  rw [hHe] at hP ⊢
  obtain ⟨locs, hLe⟩ : ∃ x : List Loc, ([] : List Loc) = x := ⟨_, rfl⟩
  rw [hLe]
  have hS : va_S (aT 22 q) s.heap H locs := by rw [← hHe, ← hLe]; exact va_S.rf
  refine lv_aload_n hx hb dX7_load_0 rfl (lv_at hl 0 rfl) ?_
  refine va_get (D := (dC, dI)) (ci := 7) (v := .int (σ.2.1 4)) (C := RX7) (T := TX7) (N := 26) hx hb hts inX7 hown hK hP 0 rfl rfl 4 (by decide) (hts _ fl_X7_128) (fun _ h9 => h9) rfl dX7_load_1 ?_
  refine lv_bipush (v := 39) hx hb dX7_load_4 (by decide) ?_
  refine lv_icmp_ne (tgt := 11) hx hb dX7_load_6 (by decide) (fun c_6 => ?_) (fun c_6 => ?_)
  · refine lv_aload_n hx hb dX7_load_11 rfl (lv_at hl 0 rfl) ?_
    refine lv_dup hx hb dX7_load_12 rfl ?_
    refine va_get (D := (dC, dI)) (ci := 7) (v := .int (σ.2.1 4)) (C := RX7) (T := TX7) (N := 26) hx hb hts inX7 hown hK hP 0 rfl rfl 4 (by decide) (hts _ fl_X7_128) (fun _ h9 => h9) rfl dX7_load_13 ?_
    refine lv_iconst (v := 1) hx hb dX7_load_16 (by decide) ?_
    refine lv_iadd hx hb dX7_load_17 ?_
    refine va_put (D := (dC, dI)) (ci := 7) (v := .int ((σ.2.1 4) + 1)) (ty := .int) (C := RX7) (T := TX7) (N := 26) hx hb hts inX7 tyX7 tyX7_ok nmX7 hown hK hP (wM_D hd) hS 0 rfl rfl 4 (by decide) (hts _ fl_X7_128) (fun _ h9 => h9) rfl (by decide +kernel) rfl rfl (Nat.le_of_ble_eq_true rfl) dX7_load_18 (fun H locs hP _ hS => ?_)
    have hP : va_P (dC, dI) vwCl (wM cI cJ q (sV σ 4 ((σ.2.1 4) + 1))) H := hP
    refine lv_aload_n hx hb dX7_load_21 rfl (lv_at hl 0 rfl) ?_
    refine va_get (D := (dC, dI)) (ci := 7) (v := .int ((σ.2.1 4) + 1)) (C := RX7) (T := TX7) (N := 26) hx hb hts inX7 hown hK hP 0 rfl rfl 4 (by decide) (hts _ fl_X7_128) (fun _ h9 => h9) rfl dX7_load_22 ?_
    have hF : fX7_load σ = ((σ.2.1 4) + 1, (sV σ 4 ((σ.2.1 4) + 1))) := by rw [fX7_load, if_neg c_6]
    have hP9 : va_P (dC, dI) vwCl (wM cI cJ q (fX7_load σ).2) H := by rw [hF]; exact hP
    exact W.iret (v := (σ.2.1 4) + 1) hx hb hr (fun t ht hW => ⟨(by rw [hF]), by rw [ht]; exact hP9, hS.F ht⟩) hS.2.2 dX7_load_25
  · refine lv_iconst (v := (-1)) hx hb dX7_load_9 (by decide) ?_
    have hF : fX7_load σ = ((-1), σ) := by rw [fX7_load, if_pos c_6]
    have hP9 : va_P (dC, dI) vwCl (wM cI cJ q (fX7_load σ).2) H := by rw [hF]; exact hP
    exact W.iret (v := (-1)) hx hb hr (fun t ht hW => ⟨(by rw [hF]), by rw [ht]; exact hP9, hS.F ht⟩) hS.2.2 dX7_load_10

def flX7_undo_79 (σ : St) (p1 : Int32) : Nat → Nat → Int32 → Int32 × St
  | 0, i, n => (n, (sI σ 20 p1.toNatClampNeg (σ.2.1 0)))
  | k + 1, i, n => (if (σ.1 19 i) = p1 then flX7_undo_79 σ p1 k (i + 1) (n + (fX7_one (sI σ 20 p1.toNatClampNeg (σ.2.1 0)) 1)) else flX7_undo_79 σ p1 k (i + 1) (n + (fX7_one (sI σ 20 p1.toNatClampNeg (σ.2.1 0)) 0)))
def flX7_undo_42 (σ : St) (p1 : Int32) : Nat → Nat → Int32 → Int32 × St
  | 0, i, n => flX7_undo_79 σ p1 ((σ.2.1 2).toNatClampNeg) 0 n
  | k + 1, i, n => (if (σ.1 14 i) = p1 then flX7_undo_42 σ p1 k (i + 1) (n + (fX7_one (sI σ 20 p1.toNatClampNeg (σ.2.1 0)) 1)) else flX7_undo_42 σ p1 k (i + 1) (n + (fX7_one (sI σ 20 p1.toNatClampNeg (σ.2.1 0)) 0)))
def fX7_undo (σ : St) (p1 : Int32) : Int32 × St :=
  (if (fX7_isIn σ p1 0 ((σ.2.1 4) - 1)) = 0 then ((-1), σ) else (if (σ.1 20 p1.toNatClampNeg) = 2001 then flX7_undo_42 σ p1 ((σ.2.1 3).toNatClampNeg) 0 0 else ((-1), σ)))
set_option maxHeartbeats 4000000 in
set_option maxRecDepth 100000 in
theorem c_X7_undo (l : Launch) (dC : Nat → ClassId) (dI : Nat → Nat → Nat) (cI cJ : ClassId) (q : Nat → Nat) (σ : St) (p1 : Int32) (hd : dT 22 q) (hI : IB σ) : Met l yX7_undo (.code yX7_undo cX7_undo 4 (some .int) :: tb) { frames := 1, cells := 0, slots := 0, locals := 22 } (Pu (dC, dI) (tyC cI cJ) (wM cI cJ q σ) [.ref (q 0), .int p1]) (xw_Q (some (.int (fX7_undo σ p1).1)) (dC, dI) (wM cI cJ q (fX7_undo σ p1).2) (aT 22 q)) 0 0 (aT 22 q) := by
  refine Met.ofW (cc := cX7_undo) (maxL := 4) (ret := (some .int)) (by decide) rfl ?_
  intro p e s m args below meth c s₁ B hml hv
  obtain ⟨rfl, hP, hK⟩ := hv
  have hx := B.exec
  have hb := B.bytes
  have hr := B.returns
  have hts0 := atoms_spec (ws := .code yX7_undo cX7_undo 4 (some .int) :: tb) B.pre
  have hts : ∀ w ∈ tb, w.before _ s = true := fun w hw => hts0 w (List.mem_cons_of_mem _ hw)
  have hown : s.vm.findClass RX7 = some m.cls := findClass_of_methodNamed B.named
  have hlocks := B.notSynchronized
  have hl := lv_entry ([.ref (q 0), .int p1]) (n := 4) (Nat.le_of_ble_eq_true rfl)
  rw [lg_entry_eq]
  generalize (lg_sl ([.ref (q 0), .int p1]) ++ List.replicate (4 - (lg_sl ([.ref (q 0), .int p1])).length) Slot.unset).toArray = ls at hl ⊢
  have hl : lv_has ls 4 [(0, .ref (q 0)), (1, .int p1)] := hl
  obtain ⟨H, hHe⟩ : ∃ H, s.heap = H := ⟨_, rfl⟩
  rw [hHe] at hP ⊢
  obtain ⟨locs, hLe⟩ : ∃ x : List Loc, ([] : List Loc) = x := ⟨_, rfl⟩
  rw [hLe]
  have hS : va_S (aT 22 q) s.heap H locs := by rw [← hHe, ← hLe]; exact va_S.rf
  refine lv_iload_n hx hb dX7_undo_0 rfl (lv_at hl 1 rfl) ?_
  refine lv_iconst (v := 0) hx hb dX7_undo_1 (by decide) ?_
  refine lv_aload_n hx hb dX7_undo_2 rfl (lv_at hl 0 rfl) ?_
  refine va_get (D := (dC, dI)) (ci := 7) (v := .int (σ.2.1 4)) (C := RX7) (T := TX7) (N := 26) hx hb hts inX7 hown hK hP 0 rfl rfl 4 (by decide) (hts _ fl_X7_128) (fun _ h9 => h9) rfl dX7_undo_3 ?_
  refine lv_iconst (v := 1) hx hb dX7_undo_6 (by decide) ?_
  refine lv_isub hx hb dX7_undo_7 ?_
  refine xc_i (va_runS (As := [.int p1, .int 0, .int ((σ.2.1 4) - 1)]) (rest := []) ⟨hx, hb, hml, hown, hts⟩ (c_X7_isIn l dC dI cI cJ q σ p1 0 ((σ.2.1 4) - 1)) (va_cwS 3 hts (gS ml_X7_73 st_X7_isIn in_X7 co_X7_isIn) rfl rfl rfl (by decide +kernel) ⟨Nat.le_of_ble_eq_true rfl, Nat.le_of_ble_eq_true rfl⟩) (preS hK hP) rfl rfl hl.1 rfl (lv_room (Nat.le_of_ble_eq_true rfl)) dX7_undo_8 ⟨Nat.zero_le _, Nat.zero_le _⟩) ?_
  refine lv_if_eq (tgt := 26) hx hb dX7_undo_11 (by decide) (fun c_11 => ?_) (fun c_11 => ?_)
  · refine lv_iconst (v := (-1)) hx hb dX7_undo_26 (by decide) ?_
    have hF : fX7_undo σ p1 = ((-1), σ) := by rw [fX7_undo, if_pos c_11]
    have hP9 : va_P (dC, dI) vwCl (wM cI cJ q (fX7_undo σ p1).2) H := by rw [hF]; exact hP
    exact W.iret (v := (-1)) hx hb hr (fun t ht hW => ⟨(by rw [hF]), by rw [ht]; exact hP9, hS.F ht⟩) hS.2.2 dX7_undo_27
  · refine lv_aload_n hx hb dX7_undo_14 rfl (lv_at hl 0 rfl) ?_
    refine va_get (D := (dC, dI)) (ci := 7) (v := .ref (q 21)) (C := RX7) (T := TX7) (N := 26) hx hb hts inX7 hown hK hP 0 rfl rfl 25 (by decide) (hts _ fl_X7_70) (fun _ h9 => h9) rfl dX7_undo_15 ?_
    refine lv_iload_n hx hb dX7_undo_18 rfl (lv_at hl 1 rfl) ?_
    refine va_iald hx hb hK hP 21 0 rfl rfl (vp_in_mono (isIn_in hI.2.2.2.1 (by decide) c_11) hI.2.2.2.1.2) dX7_undo_19 ?_
    refine lv_sipush (v := 2001) hx hb dX7_undo_20 (by decide) ?_
    refine lv_icmp_eq (tgt := 28) hx hb dX7_undo_23 (by decide) (fun c_23 => ?_) (fun c_23 => ?_)
    · refine lv_aload_n hx hb dX7_undo_28 rfl (lv_at hl 0 rfl) ?_
      refine va_get (D := (dC, dI)) (ci := 7) (v := .ref (q 21)) (C := RX7) (T := TX7) (N := 26) hx hb hts inX7 hown hK hP 0 rfl rfl 25 (by decide) (hts _ fl_X7_70) (fun _ h9 => h9) rfl dX7_undo_29 ?_
      refine lv_iload_n hx hb dX7_undo_32 rfl (lv_at hl 1 rfl) ?_
      refine lv_aload_n hx hb dX7_undo_33 rfl (lv_at hl 0 rfl) ?_
      refine va_get (D := (dC, dI)) (ci := 7) (v := .int (σ.2.1 0)) (C := RX7) (T := TX7) (N := 26) hx hb hts inX7 hown hK hP 0 rfl rfl 0 (by decide) (hts _ fl_X7_81) (fun _ h9 => h9) rfl dX7_undo_34 ?_
      refine va_iast hx hb hK hP (wM_D hd) hS 21 0 rfl rfl (vp_in_mono (isIn_in hI.2.2.2.1 (by decide) c_11) hI.2.2.2.1.2) dX7_undo_37 (fun H locs hP _ hS => ?_)
      have hP : va_P (dC, dI) vwCl (wM cI cJ q (sI σ 20 p1.toNatClampNeg (σ.2.1 0))) H := hP
      refine lv_iconst (v := 0) hx hb dX7_undo_38 (by decide) ?_
      refine lv_istore_n (lv' := [(2, .int 0), (0, .ref (q 0)), (1, .int p1)]) hx hb dX7_undo_39 rfl hl (by decide) rfl (fun ls hl => ?_)
      refine lv_iconst (v := 0) hx hb dX7_undo_40 (by decide) ?_
      refine lv_istore_n (lv' := [(3, .int 0), (2, .int 0), (0, .ref (q 0)), (1, .int p1)]) hx hb dX7_undo_41 rfl hl (by decide) rfl (fun ls hl => ?_)
      have hz : szI (σ.2.1 3) 300 := hI.2.2.1
      have hz2 := hz.2
      have loop_42 : ∀ (k i : Nat) (n : Int32), i + k = (σ.2.1 3).toNatClampNeg → fX7_undo σ p1 = flX7_undo_42 σ p1 k i n → ∀ (ls : Array Slot), lv_has ls 4 [(0, .ref (q 0)), (1, .int p1), (3, .int (nI i)), (2, .int n)] → W p l e (headSpec (.code yX7_undo cX7_undo 4 (some .int) :: tb) { frames := 1, cells := 0, slots := 0, locals := 22 }).room s m (List.toArray [.ref (q 0), .int p1]) below meth c H locs 0 0 (MQ below (xw_Q (some (.int (fX7_undo σ p1).1)) (dC, dI) (wM cI cJ q (fX7_undo σ p1).2) (aT 22 q)) (List.toArray [.ref (q 0), .int p1]) s 0 0 (aT 22 q)) (F0 m 42 ls []) := by
        intro k
        induction k with
        | zero =>
          intro i n hik hE ls hl
          refine lv_iload_n hx hb dX7_undo_42 rfl (lv_at hl 2 rfl) ?_
          refine lv_aload_n hx hb dX7_undo_43 rfl (lv_at hl 0 rfl) ?_
          refine va_get (D := (dC, dI)) (ci := 7) (v := .int (σ.2.1 3)) (C := RX7) (T := TX7) (N := 26) hx hb hts inX7 hown hK hP 0 rfl rfl 3 (by decide) (hts _ fl_X7_122) (fun _ h9 => h9) rfl dX7_undo_44 ?_
          refine lv_icmp_ge (tgt := 77) hx hb dX7_undo_47 (by decide) (fun c_47 => ?_) (fun c_47 => ?_)
          · refine lv_iconst (v := 0) hx hb dX7_undo_77 (by decide) ?_
            refine lv_istore_n (lv' := [(3, .int 0), (0, .ref (q 0)), (1, .int p1), (2, .int n)]) hx hb dX7_undo_78 rfl hl (by decide) rfl (fun ls hl => ?_)
            have hz : szI (σ.2.1 2) 200 := hI.2.1
            have hz2 := hz.2
            have loop_79 : ∀ (k i : Nat) (n : Int32), i + k = (σ.2.1 2).toNatClampNeg → fX7_undo σ p1 = flX7_undo_79 σ p1 k i n → ∀ (ls : Array Slot), lv_has ls 4 [(0, .ref (q 0)), (1, .int p1), (3, .int (nI i)), (2, .int n)] → W p l e (headSpec (.code yX7_undo cX7_undo 4 (some .int) :: tb) { frames := 1, cells := 0, slots := 0, locals := 22 }).room s m (List.toArray [.ref (q 0), .int p1]) below meth c H locs 0 0 (MQ below (xw_Q (some (.int (fX7_undo σ p1).1)) (dC, dI) (wM cI cJ q (fX7_undo σ p1).2) (aT 22 q)) (List.toArray [.ref (q 0), .int p1]) s 0 0 (aT 22 q)) (F0 m 79 ls []) := by
              intro k
              induction k with
              | zero =>
                intro i n hik hE ls hl
                refine lv_iload_n hx hb dX7_undo_79 rfl (lv_at hl 2 rfl) ?_
                refine lv_aload_n hx hb dX7_undo_80 rfl (lv_at hl 0 rfl) ?_
                refine va_get (D := (dC, dI)) (ci := 7) (v := .int (σ.2.1 2)) (C := RX7) (T := TX7) (N := 26) hx hb hts inX7 hown hK hP 0 rfl rfl 2 (by decide) (hts _ fl_X7_142) (fun _ h9 => h9) rfl dX7_undo_81 ?_
                refine lv_icmp_ge (tgt := 114) hx hb dX7_undo_84 (by decide) (fun c_84 => ?_) (fun c_84 => ?_)
                · refine lv_iload_n hx hb dX7_undo_114 rfl (lv_at hl 3 rfl) ?_
                  have hF : fX7_undo σ p1 = (n, (sI σ 20 p1.toNatClampNeg (σ.2.1 0))) := by rw [hE, flX7_undo_79]
                  have hP9 : va_P (dC, dI) vwCl (wM cI cJ q (fX7_undo σ p1).2) H := by rw [hF]; exact hP
                  exact W.iret (v := n) hx hb hr (fun t ht hW => ⟨(by rw [hF]), by rw [ht]; exact hP9, hS.F ht⟩) hS.2.2 dX7_undo_115
                · exact absurd (by rw [hz.1]; exact nI_le (by omega) (by omega)) c_84
              | succ k ih =>
                intro i n hik hE ls hl
                refine lv_iload_n hx hb dX7_undo_79 rfl (lv_at hl 2 rfl) ?_
                refine lv_aload_n hx hb dX7_undo_80 rfl (lv_at hl 0 rfl) ?_
                refine va_get (D := (dC, dI)) (ci := 7) (v := .int (σ.2.1 2)) (C := RX7) (T := TX7) (N := 26) hx hb hts inX7 hown hK hP 0 rfl rfl 2 (by decide) (hts _ fl_X7_142) (fun _ h9 => h9) rfl dX7_undo_81 ?_
                refine lv_icmp_ge (tgt := 114) hx hb dX7_undo_84 (by decide) (fun c_84 => ?_) (fun c_84 => ?_)
                · exact absurd c_84 (by rw [hz.1]; exact nI_ge (by omega) (by omega))
                · refine lv_iload_n hx hb dX7_undo_87 rfl (lv_at hl 3 rfl) ?_
                  refine lv_aload_n hx hb dX7_undo_88 rfl (lv_at hl 0 rfl) ?_
                  refine va_get (D := (dC, dI)) (ci := 7) (v := .ref (q 14)) (C := RX7) (T := TX7) (N := 26) hx hb hts inX7 hown hK hP 0 rfl rfl 18 (by decide) (hts _ fl_X7_49) (fun _ h9 => h9) rfl dX7_undo_89 ?_
                  refine lv_iload_n hx hb dX7_undo_92 rfl (lv_at hl 2 rfl) ?_
                  refine xa_ild (f := σ.1 19) hx hb hK hP 14 0 rfl rfl (by omega) (by decide) dX7_undo_93 ?_
                  refine lv_iload_n hx hb dX7_undo_94 rfl (lv_at hl 1 rfl) ?_
                  refine lv_icmp_ne (tgt := 102) hx hb dX7_undo_95 (by decide) (fun c_95 => ?_) (fun c_95 => ?_)
                  · refine lv_iconst (v := 0) hx hb dX7_undo_102 (by decide) ?_
                    refine xc_i (va_runS (As := [.int 0]) (rest := [.int n]) ⟨hx, hb, hml, hown, hts⟩ (c_X7_one l dC dI cI cJ q (sI σ 20 p1.toNatClampNeg (σ.2.1 0)) 0) (va_cwS 1 hts (gS ml_X7_135 st_X7_one in_X7 co_X7_one) rfl rfl rfl (by decide +kernel) ⟨Nat.le_of_ble_eq_true rfl, Nat.le_of_ble_eq_true rfl⟩) (preS hK hP) rfl rfl hl.1 rfl (lv_room (Nat.le_of_ble_eq_true rfl)) dX7_undo_103 ⟨Nat.zero_le _, Nat.zero_le _⟩) ?_
                    refine lv_iadd hx hb dX7_undo_106 ?_
                    refine lv_istore_n (lv' := [(2, .int (n + (fX7_one (sI σ 20 p1.toNatClampNeg (σ.2.1 0)) 0))), (0, .ref (q 0)), (1, .int p1), (3, .int (nI i))]) hx hb dX7_undo_107 rfl hl (by decide) rfl (fun ls hl => ?_)
                    refine lv_iinc (v := nI (i + 1)) (lv' := [(3, .int (nI (i + 1))), (2, .int (n + (fX7_one (sI σ 20 p1.toNatClampNeg (σ.2.1 0)) 0))), (0, .ref (q 0)), (1, .int p1)]) hx hb dX7_undo_108 hl (k := 3) rfl (nI_1 i) (by decide) rfl (fun ls hl => ?_)
                    refine lv_goto (tgt := 79) hx hb dX7_undo_111 (by decide) ?_
                    exact ih (i + 1) (n + (fX7_one (sI σ 20 p1.toNatClampNeg (σ.2.1 0)) 0)) (by omega) (by rw [hE, flX7_undo_79, if_neg c_95]) ls (lv_sub hl [2, 3, 0, 1] rfl)
                  · refine lv_iconst (v := 1) hx hb dX7_undo_98 (by decide) ?_
                    refine lv_goto (tgt := 103) hx hb dX7_undo_99 (by decide) ?_
                    refine xc_i (va_runS (As := [.int 1]) (rest := [.int n]) ⟨hx, hb, hml, hown, hts⟩ (c_X7_one l dC dI cI cJ q (sI σ 20 p1.toNatClampNeg (σ.2.1 0)) 1) (va_cwS 1 hts (gS ml_X7_135 st_X7_one in_X7 co_X7_one) rfl rfl rfl (by decide +kernel) ⟨Nat.le_of_ble_eq_true rfl, Nat.le_of_ble_eq_true rfl⟩) (preS hK hP) rfl rfl hl.1 rfl (lv_room (Nat.le_of_ble_eq_true rfl)) dX7_undo_103 ⟨Nat.zero_le _, Nat.zero_le _⟩) ?_
                    refine lv_iadd hx hb dX7_undo_106 ?_
                    refine lv_istore_n (lv' := [(2, .int (n + (fX7_one (sI σ 20 p1.toNatClampNeg (σ.2.1 0)) 1))), (0, .ref (q 0)), (1, .int p1), (3, .int (nI i))]) hx hb dX7_undo_107 rfl hl (by decide) rfl (fun ls hl => ?_)
                    refine lv_iinc (v := nI (i + 1)) (lv' := [(3, .int (nI (i + 1))), (2, .int (n + (fX7_one (sI σ 20 p1.toNatClampNeg (σ.2.1 0)) 1))), (0, .ref (q 0)), (1, .int p1)]) hx hb dX7_undo_108 hl (k := 3) rfl (nI_1 i) (by decide) rfl (fun ls hl => ?_)
                    refine lv_goto (tgt := 79) hx hb dX7_undo_111 (by decide) ?_
                    exact ih (i + 1) (n + (fX7_one (sI σ 20 p1.toNatClampNeg (σ.2.1 0)) 1)) (by omega) (by rw [hE, flX7_undo_79, if_pos c_95]) ls (lv_sub hl [2, 3, 0, 1] rfl)
            exact loop_79 ((σ.2.1 2).toNatClampNeg) 0 n (by rw [Nat.zero_add]) (by rw [hE, flX7_undo_42]) ls (lv_sub hl [1, 2, 0, 3] rfl)
          · exact absurd (by rw [hz.1]; exact nI_le (by omega) (by omega)) c_47
        | succ k ih =>
          intro i n hik hE ls hl
          refine lv_iload_n hx hb dX7_undo_42 rfl (lv_at hl 2 rfl) ?_
          refine lv_aload_n hx hb dX7_undo_43 rfl (lv_at hl 0 rfl) ?_
          refine va_get (D := (dC, dI)) (ci := 7) (v := .int (σ.2.1 3)) (C := RX7) (T := TX7) (N := 26) hx hb hts inX7 hown hK hP 0 rfl rfl 3 (by decide) (hts _ fl_X7_122) (fun _ h9 => h9) rfl dX7_undo_44 ?_
          refine lv_icmp_ge (tgt := 77) hx hb dX7_undo_47 (by decide) (fun c_47 => ?_) (fun c_47 => ?_)
          · exact absurd c_47 (by rw [hz.1]; exact nI_ge (by omega) (by omega))
          · refine lv_iload_n hx hb dX7_undo_50 rfl (lv_at hl 3 rfl) ?_
            refine lv_aload_n hx hb dX7_undo_51 rfl (lv_at hl 0 rfl) ?_
            refine va_get (D := (dC, dI)) (ci := 7) (v := .ref (q 20)) (C := RX7) (T := TX7) (N := 26) hx hb hts inX7 hown hK hP 0 rfl rfl 24 (by decide) (hts _ fl_X7_67) (fun _ h9 => h9) rfl dX7_undo_52 ?_
            refine lv_iload_n hx hb dX7_undo_55 rfl (lv_at hl 2 rfl) ?_
            refine xa_ild (f := σ.1 14) hx hb hK hP 20 0 rfl rfl (by omega) (by decide) dX7_undo_56 ?_
            refine lv_iload_n hx hb dX7_undo_57 rfl (lv_at hl 1 rfl) ?_
            refine lv_icmp_ne (tgt := 65) hx hb dX7_undo_58 (by decide) (fun c_58 => ?_) (fun c_58 => ?_)
            · refine lv_iconst (v := 0) hx hb dX7_undo_65 (by decide) ?_
              refine xc_i (va_runS (As := [.int 0]) (rest := [.int n]) ⟨hx, hb, hml, hown, hts⟩ (c_X7_one l dC dI cI cJ q (sI σ 20 p1.toNatClampNeg (σ.2.1 0)) 0) (va_cwS 1 hts (gS ml_X7_135 st_X7_one in_X7 co_X7_one) rfl rfl rfl (by decide +kernel) ⟨Nat.le_of_ble_eq_true rfl, Nat.le_of_ble_eq_true rfl⟩) (preS hK hP) rfl rfl hl.1 rfl (lv_room (Nat.le_of_ble_eq_true rfl)) dX7_undo_66 ⟨Nat.zero_le _, Nat.zero_le _⟩) ?_
              refine lv_iadd hx hb dX7_undo_69 ?_
              refine lv_istore_n (lv' := [(2, .int (n + (fX7_one (sI σ 20 p1.toNatClampNeg (σ.2.1 0)) 0))), (0, .ref (q 0)), (1, .int p1), (3, .int (nI i))]) hx hb dX7_undo_70 rfl hl (by decide) rfl (fun ls hl => ?_)
              refine lv_iinc (v := nI (i + 1)) (lv' := [(3, .int (nI (i + 1))), (2, .int (n + (fX7_one (sI σ 20 p1.toNatClampNeg (σ.2.1 0)) 0))), (0, .ref (q 0)), (1, .int p1)]) hx hb dX7_undo_71 hl (k := 3) rfl (nI_1 i) (by decide) rfl (fun ls hl => ?_)
              refine lv_goto (tgt := 42) hx hb dX7_undo_74 (by decide) ?_
              exact ih (i + 1) (n + (fX7_one (sI σ 20 p1.toNatClampNeg (σ.2.1 0)) 0)) (by omega) (by rw [hE, flX7_undo_42, if_neg c_58]) ls (lv_sub hl [2, 3, 0, 1] rfl)
            · refine lv_iconst (v := 1) hx hb dX7_undo_61 (by decide) ?_
              refine lv_goto (tgt := 66) hx hb dX7_undo_62 (by decide) ?_
              refine xc_i (va_runS (As := [.int 1]) (rest := [.int n]) ⟨hx, hb, hml, hown, hts⟩ (c_X7_one l dC dI cI cJ q (sI σ 20 p1.toNatClampNeg (σ.2.1 0)) 1) (va_cwS 1 hts (gS ml_X7_135 st_X7_one in_X7 co_X7_one) rfl rfl rfl (by decide +kernel) ⟨Nat.le_of_ble_eq_true rfl, Nat.le_of_ble_eq_true rfl⟩) (preS hK hP) rfl rfl hl.1 rfl (lv_room (Nat.le_of_ble_eq_true rfl)) dX7_undo_66 ⟨Nat.zero_le _, Nat.zero_le _⟩) ?_
              refine lv_iadd hx hb dX7_undo_69 ?_
              refine lv_istore_n (lv' := [(2, .int (n + (fX7_one (sI σ 20 p1.toNatClampNeg (σ.2.1 0)) 1))), (0, .ref (q 0)), (1, .int p1), (3, .int (nI i))]) hx hb dX7_undo_70 rfl hl (by decide) rfl (fun ls hl => ?_)
              refine lv_iinc (v := nI (i + 1)) (lv' := [(3, .int (nI (i + 1))), (2, .int (n + (fX7_one (sI σ 20 p1.toNatClampNeg (σ.2.1 0)) 1))), (0, .ref (q 0)), (1, .int p1)]) hx hb dX7_undo_71 hl (k := 3) rfl (nI_1 i) (by decide) rfl (fun ls hl => ?_)
              refine lv_goto (tgt := 42) hx hb dX7_undo_74 (by decide) ?_
              exact ih (i + 1) (n + (fX7_one (sI σ 20 p1.toNatClampNeg (σ.2.1 0)) 1)) (by omega) (by rw [hE, flX7_undo_42, if_pos c_58]) ls (lv_sub hl [2, 3, 0, 1] rfl)
      exact loop_42 ((σ.2.1 3).toNatClampNeg) 0 0 (by rw [Nat.zero_add]) (by rw [fX7_undo, if_neg c_11, if_pos c_23]) ls (lv_sub hl [2, 3, 0, 1] rfl)
    · refine lv_iconst (v := (-1)) hx hb dX7_undo_26 (by decide) ?_
      have hF : fX7_undo σ p1 = ((-1), σ) := by rw [fX7_undo, if_neg c_11, if_neg c_23]
      have hP9 : va_P (dC, dI) vwCl (wM cI cJ q (fX7_undo σ p1).2) H := by rw [hF]; exact hP
      exact W.iret (v := (-1)) hx hb hr (fun t ht hW => ⟨(by rw [hF]), by rw [ht]; exact hP9, hS.F ht⟩) hS.2.2 dX7_undo_27
