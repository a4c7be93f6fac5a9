set_option maxHeartbeats 4000000 in
set_option maxRecDepth 100000 in
theorem c_X4_size (l : Launch) (dC : Nat → ClassId) (dI : Nat → Nat → Nat) (cI cJ : ClassId) (q : Nat → Nat) (σ : St) : Met l yX4_size (.code yX4_size cX4_size 1 (some .int) :: tb) { frames := 1, cells := 0, slots := 0, locals := 20 } (Pu (dC, dI) (tyC cI cJ) (wT cI cJ q σ) [.ref (q 13)]) (vp_Si (fun r => r = σ.2.1 3)) 0 0 (fun _ => False) := by
  refine Met.ofW (cc := cX4_size) (maxL := 1) (ret := (some .int)) (by decide) rfl ?_
  intro p e s m args below meth c s₁ B hml hv
  obtain ⟨rfl, hP, hK⟩ := hv
  have hx := B.exec
  have hb := B.bytes
  have hr := B.returns
  have hts0 := atoms_spec (ws := .code yX4_size cX4_size 1 (some .int) :: tb) B.pre
  have hts : ∀ w ∈ tb, w.before _ s = true := fun w hw => hts0 w (List.mem_cons_of_mem _ hw)
  have hown : s.vm.findClass RX4 = some m.cls := findClass_of_methodNamed B.named
  have hlocks := B.notSynchronized
  have hl := lv_entry ([.ref (q 13)]) (n := 1) (Nat.le_of_ble_eq_true rfl)
  rw [lg_entry_eq]
  generalize (lg_sl ([.ref (q 13)]) ++ List.replicate (1 - (lg_sl ([.ref (q 13)])).length) Slot.unset).toArray = ls at hl ⊢
  have hl : lv_has ls 1 [(0, .ref (q 13))] := hl
  refine lv_aload_n hx hb dX4_size_0 rfl (lv_at hl 0 rfl) ?_
  refine va_get (D := (dC, dI)) (ci := 4) (v := .ref (q 14)) (C := RX4) (T := TX4) (N := 5) hx hb hts inX4 hown hK hP 13 rfl rfl 0 (by decide) (hts _ fl_X4_14) (fun _ h9 => h9) rfl dX4_size_1 ?_
  refine xc_i (va_runV (As := []) (rest := []) ⟨hx, hb, hml, hown, hts⟩ (c_X3_size_T l dC dI cI cJ q σ ) (cwV 0 hts (gV ml_X4_33 im_X3_size se_X3_size in_X3 co_X3_size) rfl rfl rfl (by decide +kernel) ⟨Nat.le_of_ble_eq_true rfl, Nat.le_of_ble_eq_true rfl⟩) (preV hK hP (pos := 14) (ci := 3) rfl rfl) rfl rfl hl.1 rfl (lv_room (Nat.le_of_ble_eq_true rfl)) dX4_size_4 ⟨Nat.zero_le _, Nat.zero_le _⟩) ?_
  exact W.iret (v := σ.2.1 3) hx hb hr (fun t ht hW => ⟨_, rfl, rfl, ht⟩) (fun _ h => absurd h List.not_mem_nil) dX4_size_7

set_option maxHeartbeats 4000000 in
set_option maxRecDepth 100000 in
theorem c_X4_isFull (l : Launch) (dC : Nat → ClassId) (dI : Nat → Nat → Nat) (cI cJ : ClassId) (q : Nat → Nat) (σ : St) : Met l yX4_isFull (.code yX4_isFull cX4_isFull 1 (some .boolean) :: tb) { frames := 1, cells := 0, slots := 0, locals := 20 } (Pu (dC, dI) (tyC cI cJ) (wT cI cJ q σ) [.ref (q 13)]) (vp_Si (fun r => r = fX3_isFull_T σ)) 0 0 (fun _ => False) := by
  refine Met.ofW (cc := cX4_isFull) (maxL := 1) (ret := (some .boolean)) (by decide) rfl ?_
  intro p e s m args below meth c s₁ B hml hv
  obtain ⟨rfl, hP, hK⟩ := hv
  have hx := B.exec
  have hb := B.bytes
  have hr := B.returns
  have hts0 := atoms_spec (ws := .code yX4_isFull cX4_isFull 1 (some .boolean) :: tb) B.pre
  have hts : ∀ w ∈ tb, w.before _ s = true := fun w hw => hts0 w (List.mem_cons_of_mem _ hw)
  have hown : s.vm.findClass RX4 = some m.cls := findClass_of_methodNamed B.named
  have hlocks := B.notSynchronized
  have hl := lv_entry ([.ref (q 13)]) (n := 1) (Nat.le_of_ble_eq_true rfl)
  rw [lg_entry_eq]
  generalize (lg_sl ([.ref (q 13)]) ++ List.replicate (1 - (lg_sl ([.ref (q 13)])).length) Slot.unset).toArray = ls at hl ⊢
  have hl : lv_has ls 1 [(0, .ref (q 13))] := hl
  refine lv_aload_n hx hb dX4_isFull_0 rfl (lv_at hl 0 rfl) ?_
  refine va_get (D := (dC, dI)) (ci := 4) (v := .ref (q 14)) (C := RX4) (T := TX4) (N := 5) hx hb hts inX4 hown hK hP 13 rfl rfl 0 (by decide) (hts _ fl_X4_14) (fun _ h9 => h9) rfl dX4_isFull_1 ?_
  refine xc_i (va_runV (As := []) (rest := []) ⟨hx, hb, hml, hown, hts⟩ (c_X3_isFull_T l dC dI cI cJ q σ ) (cwV 0 hts (gV ml_X4_37 im_X3_isFull se_X3_isFull in_X3 co_X3_isFull) rfl rfl rfl (by decide +kernel) ⟨Nat.le_of_ble_eq_true rfl, Nat.le_of_ble_eq_true rfl⟩) (preV hK hP (pos := 14) (ci := 3) rfl rfl) rfl rfl hl.1 rfl (lv_room (Nat.le_of_ble_eq_true rfl)) dX4_isFull_4 ⟨Nat.zero_le _, Nat.zero_le _⟩) ?_
  exact W.zret (v := fX3_isFull_T σ) hx hb hr (nb_of (b_X3_isFull_T σ)) (fun t ht hW => ⟨_, rfl, rfl, ht⟩) (fun _ h => absurd h List.not_mem_nil) dX4_isFull_7

set_option maxHeartbeats 4000000 in
set_option maxRecDepth 100000 in
theorem c_X4_sizeOfLoad (l : Launch) (dC : Nat → ClassId) (dI : Nat → Nat → Nat) (cI cJ : ClassId) (q : Nat → Nat) (σ : St) (p1 : Int32) (hI : IB σ) : Met l yX4_sizeOfLoad (.code yX4_sizeOfLoad cX4_sizeOfLoad 2 (some .int) :: tb) { frames := 1, cells := 0, slots := 0, locals := 23 } (Pu (dC, dI) (tyC cI cJ) (wT cI cJ q σ) [.ref (q 13), .int p1]) (vp_Si (fun r => r = fX3_sizeOfLoad_T σ p1)) 0 0 (fun _ => False) := by
  refine Met.ofW (cc := cX4_sizeOfLoad) (maxL := 2) (ret := (some .int)) (by decide) rfl ?_
  intro p e s m args below meth c s₁ B hml hv
  obtain ⟨rfl, hP, hK⟩ := hv
  have hx := B.exec
  have hb := B.bytes
  have hr := B.returns
  have hts0 := atoms_spec (ws := .code yX4_sizeOfLoad cX4_sizeOfLoad 2 (some .int) :: tb) B.pre
  have hts : ∀ w ∈ tb, w.before _ s = true := fun w hw => hts0 w (List.mem_cons_of_mem _ hw)
  have hown : s.vm.findClass RX4 = some m.cls := findClass_of_methodNamed B.named
  have hlocks := B.notSynchronized
  have hl := lv_entry ([.ref (q 13), .int p1]) (n := 2) (Nat.le_of_ble_eq_true rfl)
  rw [lg_entry_eq]
  generalize (lg_sl ([.ref (q 13), .int p1]) ++ List.replicate (2 - (lg_sl ([.ref (q 13), .int p1])).length) Slot.unset).toArray = ls at hl ⊢
  have hl : lv_has ls 2 [(0, .ref (q 13)), (1, .int p1)] := hl
  refine lv_aload_n hx hb dX4_sizeOfLoad_0 rfl (lv_at hl 0 rfl) ?_
  refine va_get (D := (dC, dI)) (ci := 4) (v := .ref (q 14)) (C := RX4) (T := TX4) (N := 5) hx hb hts inX4 hown hK hP 13 rfl rfl 0 (by decide) (hts _ fl_X4_14) (fun _ h9 => h9) rfl dX4_sizeOfLoad_1 ?_
  refine lv_iload_n hx hb dX4_sizeOfLoad_4 rfl (lv_at hl 1 rfl) ?_
  refine xc_i (va_runV (As := [.int p1]) (rest := []) ⟨hx, hb, hml, hown, hts⟩ (c_X3_sizeOfLoad_T l dC dI cI cJ q σ p1 (by assumption)) (cwV 1 hts (gV ml_X4_41 im_X3_sizeOfLoad se_X3_sizeOfLoad in_X3 co_X3_sizeOfLoad) rfl rfl rfl (by decide +kernel) ⟨Nat.le_of_ble_eq_true rfl, Nat.le_of_ble_eq_true rfl⟩) (preV hK hP (pos := 14) (ci := 3) rfl rfl) rfl rfl hl.1 rfl (lv_room (Nat.le_of_ble_eq_true rfl)) dX4_sizeOfLoad_5 ⟨Nat.zero_le _, Nat.zero_le _⟩) ?_
  exact W.iret (v := fX3_sizeOfLoad_T σ p1) hx hb hr (fun t ht hW => ⟨_, rfl, rfl, ht⟩) (fun _ h => absurd h List.not_mem_nil) dX4_sizeOfLoad_8

def fX4_isOf (σ : St) (p1 : Int32) (p2 : Int32) (p3 : Int32) : Int32 :=
  (if (σ.1 9 p1.toNatClampNeg) = p2 then (if (σ.1 10 p1.toNatClampNeg) = p3 then 1 else 0) else 0)
set_option maxHeartbeats 4000000 in
set_option maxRecDepth 100000 in
theorem c_X4_isOf (l : Launch) (dC : Nat → ClassId) (dI : Nat → Nat → Nat) (cI cJ : ClassId) (q : Nat → Nat) (σ : St) (p1 : Int32) (p2 : Int32) (p3 : Int32) (hR : vp_in p1 300) : Met l yX4_isOf (.code yX4_isOf cX4_isOf 4 (some .boolean) :: tb) { frames := 0, cells := 0, slots := 0, locals := 0 } (Pu (dC, dI) (tyC cI cJ) (wT cI cJ q σ) [.ref (q 13), .int p1, .int p2, .int p3]) (vp_Si (fun r => r = fX4_isOf σ p1 p2 p3)) 0 0 (fun _ => False) := by
  refine Met.ofW (cc := cX4_isOf) (maxL := 4) (ret := (some .boolean)) (by decide) rfl ?_
  intro p e s m args below meth c s₁ B hml hv
  obtain ⟨rfl, hP, hK⟩ := hv
  have hx := B.exec
  have hb := B.bytes
  have hr := B.returns
  have hts0 := atoms_spec (ws := .code yX4_isOf cX4_isOf 4 (some .boolean) :: tb) B.pre
  have hts : ∀ w ∈ tb, w.before _ s = true := fun w hw => hts0 w (List.mem_cons_of_mem _ hw)
  have hown : s.vm.findClass RX4 = some m.cls := findClass_of_methodNamed B.named
  have hlocks := B.notSynchronized
  have hl := lv_entry ([.ref (q 13), .int p1, .int p2, .int p3]) (n := 4) (Nat.le_of_ble_eq_true rfl)
  rw [lg_entry_eq]
  generalize (lg_sl ([.ref (q 13), .int p1, .int p2, .int p3]) ++ List.replicate (4 - (lg_sl ([.ref (q 13), .int p1, .int p2, .int p3])).length) Slot.unset).toArray = ls at hl ⊢
  have hl : lv_has ls 4 [(0, .ref (q 13)), (1, .int p1), (2, .int p2), (3, .int p3)] := hl
  refine lv_aload_n hx hb dX4_isOf_0 rfl (lv_at hl 0 rfl) ?_
  refine va_get (D := (dC, dI)) (ci := 4) (v := .ref (q 15)) (C := RX4) (T := TX4) (N := 5) hx hb hts inX4 hown hK hP 13 rfl rfl 1 (by decide) (hts _ fl_X4_20) (fun _ h9 => h9) rfl dX4_isOf_1 ?_
  refine lv_iload_n hx hb dX4_isOf_4 rfl (lv_at hl 1 rfl) ?_
  refine va_iald hx hb hK hP 15 0 rfl rfl (by assumption) dX4_isOf_5 ?_
  refine lv_iload_n hx hb dX4_isOf_6 rfl (lv_at hl 2 rfl) ?_
  refine lv_icmp_ne (tgt := 24) hx hb dX4_isOf_7 (by decide) (fun c_7 => ?_) (fun c_7 => ?_)
  · refine lv_iconst (v := 0) hx hb dX4_isOf_24 (by decide) ?_
    exact W.zret (v := 0) hx hb hr narrow_b0 (fun t ht hW => ⟨_, rfl, (by rw [fX4_isOf, if_neg c_7]), ht⟩) (fun _ h => absurd h List.not_mem_nil) dX4_isOf_25
  · refine lv_aload_n hx hb dX4_isOf_10 rfl (lv_at hl 0 rfl) ?_
    refine va_get (D := (dC, dI)) (ci := 4) (v := .ref (q 16)) (C := RX4) (T := TX4) (N := 5) hx hb hts inX4 hown hK hP 13 rfl rfl 2 (by decide) (hts _ fl_X4_24) (fun _ h9 => h9) rfl dX4_isOf_11 ?_
    refine lv_iload_n hx hb dX4_isOf_14 rfl (lv_at hl 1 rfl) ?_
    refine va_iald hx hb hK hP 16 0 rfl rfl (by assumption) dX4_isOf_15 ?_
    refine lv_iload_n hx hb dX4_isOf_16 rfl (lv_at hl 3 rfl) ?_
    refine lv_icmp_ne (tgt := 24) hx hb dX4_isOf_17 (by decide) (fun c_17 => ?_) (fun c_17 => ?_)
    · refine lv_iconst (v := 0) hx hb dX4_isOf_24 (by decide) ?_
      exact W.zret (v := 0) hx hb hr narrow_b0 (fun t ht hW => ⟨_, rfl, (by rw [fX4_isOf, if_pos c_7, if_neg c_17]), ht⟩) (fun _ h => absurd h List.not_mem_nil) dX4_isOf_25
    · refine lv_iconst (v := 1) hx hb dX4_isOf_20 (by decide) ?_
      refine lv_goto (tgt := 25) hx hb dX4_isOf_21 (by decide) ?_
      exact W.zret (v := 1) hx hb hr narrow_b1 (fun t ht hW => ⟨_, rfl, (by rw [fX4_isOf, if_pos c_7, if_pos c_17]), ht⟩) (fun _ h => absurd h List.not_mem_nil) dX4_isOf_25

def fX4_outdoes (σ : St) (p1 : Int32) (p2 : Int32) (p3 : Int32) : Int32 :=
  (if 1 < (σ.1 10 p1.toNatClampNeg) then (if p3 < (σ.1 11 p1.toNatClampNeg) then 0 else (if p2 = (-1) then 1 else (if (σ.1 11 p1.toNatClampNeg) < (σ.1 11 p2.toNatClampNeg) then 0 else 1))) else 1)
set_option maxHeartbeats 4000000 in
set_option maxRecDepth 100000 in
theorem c_X4_outdoes (l : Launch) (dC : Nat → ClassId) (dI : Nat → Nat → Nat) (cI cJ : ClassId) (q : Nat → Nat) (σ : St) (p1 : Int32) (p2 : Int32) (p3 : Int32) (hR : vp_in p1 300) (hB : p2 = (-1) ∨ vp_in p2 300) : Met l yX4_outdoes (.code yX4_outdoes cX4_outdoes 4 (some .boolean) :: tb) { frames := 0, cells := 0, slots := 0, locals := 0 } (Pu (dC, dI) (tyC cI cJ) (wT cI cJ q σ) [.ref (q 13), .int p1, .int p2, .int p3]) (vp_Si (fun r => r = fX4_outdoes σ p1 p2 p3)) 0 0 (fun _ => False) := by
  refine Met.ofW (cc := cX4_outdoes) (maxL := 4) (ret := (some .boolean)) (by decide) rfl ?_
  intro p e s m args below meth c s₁ B hml hv
  obtain ⟨rfl, hP, hK⟩ := hv
  have hx := B.exec
  have hb := B.bytes
  have hr := B.returns
  have hts0 := atoms_spec (ws := .code yX4_outdoes cX4_outdoes 4 (some .boolean) :: tb) B.pre
  have hts : ∀ w ∈ tb, w.before _ s = true := fun w hw => hts0 w (List.mem_cons_of_mem _ hw)
  have hown : s.vm.findClass RX4 = some m.cls := findClass_of_methodNamed B.named
  have hlocks := B.notSynchronized
  have hl := lv_entry ([.ref (q 13), .int p1, .int p2, .int p3]) (n := 4) (Nat.le_of_ble_eq_true rfl)
  rw [lg_entry_eq]
  generalize (lg_sl ([.ref (q 13), .int p1, .int p2, .int p3]) ++ List.replicate (4 - (lg_sl ([.ref (q 13), .int p1, .int p2, .int p3])).length) Slot.unset).toArray = ls at hl ⊢
  have hl : lv_has ls 4 [(0, .ref (q 13)), (1, .int p1), (2, .int p2), (3, .int p3)] := hl
  refine lv_aload_n hx hb dX4_outdoes_0 rfl (lv_at hl 0 rfl) ?_
  refine va_get (D := (dC, dI)) (ci := 4) (v := .ref (q 16)) (C := RX4) (T := TX4) (N := 5) hx hb hts inX4 hown hK hP 13 rfl rfl 2 (by decide) (hts _ fl_X4_24) (fun _ h9 => h9) rfl dX4_outdoes_1 ?_
  refine lv_iload_n hx hb dX4_outdoes_4 rfl (lv_at hl 1 rfl) ?_
  refine va_iald hx hb hK hP 16 0 rfl rfl (by assumption) dX4_outdoes_5 ?_
  refine lv_iconst (v := 1) hx hb dX4_outdoes_6 (by decide) ?_
  refine lv_icmp_gt (tgt := 12) hx hb dX4_outdoes_7 (by decide) (fun c_7 => ?_) (fun c_7 => ?_)
  · refine lv_aload_n hx hb dX4_outdoes_12 rfl (lv_at hl 0 rfl) ?_
    refine va_get (D := (dC, dI)) (ci := 4) (v := .ref (q 17)) (C := RX4) (T := TX4) (N := 5) hx hb hts inX4 hown hK hP 13 rfl rfl 3 (by decide) (hts _ fl_X4_27) (fun _ h9 => h9) rfl dX4_outdoes_13 ?_
    refine lv_iload_n hx hb dX4_outdoes_16 rfl (lv_at hl 1 rfl) ?_
    refine va_iald hx hb hK hP 17 0 rfl rfl (by assumption) dX4_outdoes_17 ?_
    refine lv_iload_n hx hb dX4_outdoes_18 rfl (lv_at hl 3 rfl) ?_
    refine lv_icmp_gt (tgt := 46) hx hb dX4_outdoes_19 (by decide) (fun c_19 => ?_) (fun c_19 => ?_)
    · refine lv_iconst (v := 0) hx hb dX4_outdoes_46 (by decide) ?_
      exact W.zret (v := 0) hx hb hr narrow_b0 (fun t ht hW => ⟨_, rfl, (by rw [fX4_outdoes, if_pos c_7, if_pos c_19]), ht⟩) (fun _ h => absurd h List.not_mem_nil) dX4_outdoes_47
    · refine lv_iload_n hx hb dX4_outdoes_22 rfl (lv_at hl 2 rfl) ?_
      refine lv_iconst (v := (-1)) hx hb dX4_outdoes_23 (by decide) ?_
      refine lv_icmp_eq (tgt := 42) hx hb dX4_outdoes_24 (by decide) (fun c_24 => ?_) (fun c_24 => ?_)
      · refine lv_iconst (v := 1) hx hb dX4_outdoes_42 (by decide) ?_
        refine lv_goto (tgt := 47) hx hb dX4_outdoes_43 (by decide) ?_
        exact W.zret (v := 1) hx hb hr narrow_b1 (fun t ht hW => ⟨_, rfl, (by rw [fX4_outdoes, if_pos c_7, if_neg c_19, if_pos c_24]), ht⟩) (fun _ h => absurd h List.not_mem_nil) dX4_outdoes_47
      · refine lv_aload_n hx hb dX4_outdoes_27 rfl (lv_at hl 0 rfl) ?_
        refine va_get (D := (dC, dI)) (ci := 4) (v := .ref (q 17)) (C := RX4) (T := TX4) (N := 5) hx hb hts inX4 hown hK hP 13 rfl rfl 3 (by decide) (hts _ fl_X4_27) (fun _ h9 => h9) rfl dX4_outdoes_28 ?_
        refine lv_iload_n hx hb dX4_outdoes_31 rfl (lv_at hl 1 rfl) ?_
        refine va_iald hx hb hK hP 17 0 rfl rfl (by assumption) dX4_outdoes_32 ?_
        refine lv_aload_n hx hb dX4_outdoes_33 rfl (lv_at hl 0 rfl) ?_
        refine va_get (D := (dC, dI)) (ci := 4) (v := .ref (q 17)) (C := RX4) (T := TX4) (N := 5) hx hb hts inX4 hown hK hP 13 rfl rfl 3 (by decide) (hts _ fl_X4_27) (fun _ h9 => h9) rfl dX4_outdoes_34 ?_
        refine lv_iload_n hx hb dX4_outdoes_37 rfl (lv_at hl 2 rfl) ?_
        refine va_iald hx hb hK hP 17 0 rfl rfl (hB.resolve_left c_24) dX4_outdoes_38 ?_
        refine lv_icmp_lt (tgt := 46) hx hb dX4_outdoes_39 (by decide) (fun c_39 => ?_) (fun c_39 => ?_)
        · refine lv_iconst (v := 0) hx hb dX4_outdoes_46 (by decide) ?_
          exact W.zret (v := 0) hx hb hr narrow_b0 (fun t ht hW => ⟨_, rfl, (by rw [fX4_outdoes, if_pos c_7, if_neg c_19, if_neg c_24, if_pos c_39]), ht⟩) (fun _ h => absurd h List.not_mem_nil) dX4_outdoes_47
        · refine lv_iconst (v := 1) hx hb dX4_outdoes_42 (by decide) ?_
          refine lv_goto (tgt := 47) hx hb dX4_outdoes_43 (by decide) ?_
          exact W.zret (v := 1) hx hb hr narrow_b1 (fun t ht hW => ⟨_, rfl, (by rw [fX4_outdoes, if_pos c_7, if_neg c_19, if_neg c_24, if_neg c_39]), ht⟩) (fun _ h => absurd h List.not_mem_nil) dX4_outdoes_47
  · refine lv_iconst (v := 1) hx hb dX4_outdoes_10 (by decide) ?_
    exact W.zret (v := 1) hx hb hr narrow_b1 (fun t ht hW => ⟨_, rfl, (by rw [fX4_outdoes, if_neg c_7]), ht⟩) (fun _ h => absurd h List.not_mem_nil) dX4_outdoes_11

def flX4_valueOn_6 (σ : St) (p1 : Int32) (p2 : Int32) (p3 : Int32) (p4 : Int32) : Nat → Nat → Int32 → Int32
  | 0, i, best => (if best = (-1) then 100 else σ.1 12 best.toNatClampNeg)
  | k + 1, i, best => (if (fX4_isOf σ (nI i) p1 p2) = 0 then flX4_valueOn_6 σ p1 p2 p3 p4 k (i + 1) best else (if (fX3_isKnown_T σ (nI i) p4) = 0 then flX4_valueOn_6 σ p1 p2 p3 p4 k (i + 1) best else (if (fX4_outdoes σ (nI i) best p3) = 0 then flX4_valueOn_6 σ p1 p2 p3 p4 k (i + 1) best else flX4_valueOn_6 σ p1 p2 p3 p4 k (i + 1) (nI i))))
def fX4_valueOn (σ : St) (p1 : Int32) (p2 : Int32) (p3 : Int32) (p4 : Int32) : Int32 :=
  flX4_valueOn_6 σ p1 p2 p3 p4 ((σ.2.1 3).toNatClampNeg) 0 (-1)
set_option maxHeartbeats 4000000 in
set_option maxRecDepth 100000 in
theorem c_X4_valueOn (l : Launch) (dC : Nat → ClassId) (dI : Nat → Nat → Nat) (cI cJ : ClassId) (q : Nat → Nat) (σ : St) (p1 : Int32) (p2 : Int32) (p3 : Int32) (p4 : Int32) (hI : IB σ) : Met l yX4_valueOn (.code yX4_valueOn cX4_valueOn 7 (some .int) :: tb) { frames := 2, cells := 0, slots := 0, locals := 44 } (Pu (dC, dI) (tyC cI cJ) (wT cI cJ q σ) [.ref (q 13), .int p1, .int p2, .int p3, .int p4]) (vp_Si (fun r => r = fX4_valueOn σ p1 p2 p3 p4)) 0 0 (fun _ => False) := by
  refine Met.ofW (cc := cX4_valueOn) (maxL := 7) (ret := (some .int)) (by decide) rfl ?_
  intro p e s m args below meth c s₁ B hml hv
  obtain ⟨rfl, hP, hK⟩ := hv
  have hx := B.exec
  have hb := B.bytes
  have hr := B.returns
  have hts0 := atoms_spec (ws := .code yX4_valueOn cX4_valueOn 7 (some .int) :: tb) B.pre
  have hts : ∀ w ∈ tb, w.before _ s = true := fun w hw => hts0 w (List.mem_cons_of_mem _ hw)
  have hown : s.vm.findClass RX4 = some m.cls := findClass_of_methodNamed B.named
  have hlocks := B.notSynchronized
  have hl := lv_entry ([.ref (q 13), .int p1, .int p2, .int p3, .int p4]) (n := 7) (Nat.le_of_ble_eq_true rfl)
  rw [lg_entry_eq]
  generalize (lg_sl ([.ref (q 13), .int p1, .int p2, .int p3, .int p4]) ++ List.replicate (7 - (lg_sl ([.ref (q 13), .int p1, .int p2, .int p3, .int p4])).length) Slot.unset).toArray = ls at hl ⊢
  have hl : lv_has ls 7 [(0, .ref (q 13)), (1, .int p1), (2, .int p2), (3, .int p3), (4, .int p4)] := hl
  refine lv_iconst (v := (-1)) hx hb dX4_valueOn_0 (by decide) ?_
  refine lv_istore (lv' := [(5, .int (-1)), (0, .ref (q 13)), (1, .int p1), (2, .int p2), (3, .int p3), (4, .int p4)]) hx hb dX4_valueOn_1 hl (by decide) rfl (fun ls hl => ?_)
  refine lv_iconst (v := 0) hx hb dX4_valueOn_3 (by decide) ?_
  refine lv_istore (lv' := [(6, .int 0), (5, .int (-1)), (0, .ref (q 13)), (1, .int p1), (2, .int p2), (3, .int p3), (4, .int p4)]) hx hb dX4_valueOn_4 hl (by decide) rfl (fun ls hl => ?_)
  have hz : szI (σ.2.1 3) 300 := hI.2.2.1
  have hz2 := hz.2
  have loop_6 : ∀ (k i : Nat) (best : Int32), i + k = (σ.2.1 3).toNatClampNeg → (best = (-1) ∨ vp_in best 300) → fX4_valueOn σ p1 p2 p3 p4 = flX4_valueOn_6 σ p1 p2 p3 p4 k i best → ∀ (ls : Array Slot), lv_has ls 7 [(0, .ref (q 13)), (1, .int p1), (2, .int p2), (3, .int p3), (4, .int p4), (6, .int (nI i)), (5, .int best)] → W p l e (headSpec (.code yX4_valueOn cX4_valueOn 7 (some .int) :: tb) { frames := 2, cells := 0, slots := 0, locals := 44 }).room s m (List.toArray [.ref (q 13), .int p1, .int p2, .int p3, .int p4]) below meth c s.heap [] 0 0 (MQ below (vp_Si (fun r => r = fX4_valueOn σ p1 p2 p3 p4)) (List.toArray [.ref (q 13), .int p1, .int p2, .int p3, .int p4]) s 0 0 (fun _ => False)) (F0 m 6 ls []) := by
    intro k
    induction k with
    | zero =>
      intro i best hik hv hE ls hl
      refine lv_iload hx hb dX4_valueOn_6 (lv_at hl 5 rfl) ?_
      refine lv_aload_n hx hb dX4_valueOn_8 rfl (lv_at hl 0 rfl) ?_
      refine va_get (D := (dC, dI)) (ci := 4) (v := .ref (q 14)) (C := RX4) (T := TX4) (N := 5) hx hb hts inX4 hown hK hP 13 rfl rfl 0 (by decide) (hts _ fl_X4_14) (fun _ h9 => h9) rfl dX4_valueOn_9 ?_
      refine xc_i (va_runV (As := []) (rest := [.int (nI i)]) ⟨hx, hb, hml, hown, hts⟩ (c_X3_size_T l dC dI cI cJ q σ ) (cwV 0 hts (gV ml_X4_33 im_X3_size se_X3_size in_X3 co_X3_size) rfl rfl rfl (by decide +kernel) ⟨Nat.le_of_ble_eq_true rfl, Nat.le_of_ble_eq_true rfl⟩) (preV hK hP (pos := 14) (ci := 3) rfl rfl) rfl rfl hl.1 rfl (lv_room (Nat.le_of_ble_eq_true rfl)) dX4_valueOn_12 ⟨Nat.zero_le _, Nat.zero_le _⟩) ?_
      refine lv_icmp_ge (tgt := 65) hx hb dX4_valueOn_15 (by decide) (fun c_15 => ?_) (fun c_15 => ?_)
      · refine lv_iload hx hb dX4_valueOn_65 (lv_at hl 6 rfl) ?_
        refine lv_iconst (v := (-1)) hx hb dX4_valueOn_67 (by decide) ?_
        refine lv_icmp_ne (tgt := 76) hx hb dX4_valueOn_68 (by decide) (fun c_68 => ?_) (fun c_68 => ?_)
        · refine lv_aload_n hx hb dX4_valueOn_76 rfl (lv_at hl 0 rfl) ?_
          refine va_get (D := (dC, dI)) (ci := 4) (v := .ref (q 18)) (C := RX4) (T := TX4) (N := 5) hx hb hts inX4 hown hK hP 13 rfl rfl 4 (by decide) (hts _ fl_X4_30) (fun _ h9 => h9) rfl dX4_valueOn_77 ?_
          refine lv_iload hx hb dX4_valueOn_80 (lv_at hl 6 rfl) ?_
          refine va_iald hx hb hK hP 18 0 rfl rfl (hv.resolve_left c_68) dX4_valueOn_82 ?_
          exact W.iret (v := σ.1 12 best.toNatClampNeg) hx hb hr (fun t ht hW => ⟨_, rfl, (by rw [hE, flX4_valueOn_6, if_neg c_68]), ht⟩) (fun _ h => absurd h List.not_mem_nil) dX4_valueOn_83
        · refine lv_bipush (v := 100) hx hb dX4_valueOn_71 (by decide) ?_
          refine lv_goto (tgt := 83) hx hb dX4_valueOn_73 (by decide) ?_
          exact W.iret (v := 100) hx hb hr (fun t ht hW => ⟨_, rfl, (by rw [hE, flX4_valueOn_6, if_pos c_68]), ht⟩) (fun _ h => absurd h List.not_mem_nil) dX4_valueOn_83
      · exact absurd (by rw [hz.1]; exact nI_le (by omega) (by omega)) c_15
    | succ k ih =>
      intro i best hik hv hE ls hl
      refine lv_iload hx hb dX4_valueOn_6 (lv_at hl 5 rfl) ?_
      refine lv_aload_n hx hb dX4_valueOn_8 rfl (lv_at hl 0 rfl) ?_
      refine va_get (D := (dC, dI)) (ci := 4) (v := .ref (q 14)) (C := RX4) (T := TX4) (N := 5) hx hb hts inX4 hown hK hP 13 rfl rfl 0 (by decide) (hts _ fl_X4_14) (fun _ h9 => h9) rfl dX4_valueOn_9 ?_
      refine xc_i (va_runV (As := []) (rest := [.int (nI i)]) ⟨hx, hb, hml, hown, hts⟩ (c_X3_size_T l dC dI cI cJ q σ ) (cwV 0 hts (gV ml_X4_33 im_X3_size se_X3_size in_X3 co_X3_size) rfl rfl rfl (by decide +kernel) ⟨Nat.le_of_ble_eq_true rfl, Nat.le_of_ble_eq_true rfl⟩) (preV hK hP (pos := 14) (ci := 3) rfl rfl) rfl rfl hl.1 rfl (lv_room (Nat.le_of_ble_eq_true rfl)) dX4_valueOn_12 ⟨Nat.zero_le _, Nat.zero_le _⟩) ?_
      refine lv_icmp_ge (tgt := 65) hx hb dX4_valueOn_15 (by decide) (fun c_15 => ?_) (fun c_15 => ?_)
      · exact absurd c_15 (by rw [hz.1]; exact nI_ge (by omega) (by omega))
      · refine lv_aload_n hx hb dX4_valueOn_18 rfl (lv_at hl 0 rfl) ?_
        refine lv_iload hx hb dX4_valueOn_19 (lv_at hl 5 rfl) ?_
        refine lv_iload_n hx hb dX4_valueOn_21 rfl (lv_at hl 1 rfl) ?_
        refine lv_iload_n hx hb dX4_valueOn_22 rfl (lv_at hl 2 rfl) ?_
        refine xc_i (va_runV (As := [.int (nI i), .int p1, .int p2]) (rest := []) ⟨hx, hb, hml, hown, hts⟩ (c_X4_isOf l dC dI cI cJ q σ (nI i) p1 p2 (vp_in_nI (by omega) (by decide))) (cwV 3 hts (gV ml_X4_48 im_X4_isOf se_X4_isOf in_X4 co_X4_isOf) rfl rfl rfl (by decide +kernel) ⟨Nat.le_of_ble_eq_true rfl, Nat.le_of_ble_eq_true rfl⟩) (preV hK hP (pos := 13) (ci := 4) rfl rfl) rfl rfl hl.1 rfl (lv_room (Nat.le_of_ble_eq_true rfl)) dX4_valueOn_23 ⟨Nat.zero_le _, Nat.zero_le _⟩) ?_
        refine lv_if_eq (tgt := 59) hx hb dX4_valueOn_26 (by decide) (fun c_26 => ?_) (fun c_26 => ?_)
        · refine lv_iinc (v := nI (i + 1)) (lv' := [(6, .int (nI (i + 1))), (0, .ref (q 13)), (1, .int p1), (2, .int p2), (3, .int p3), (4, .int p4), (5, .int best)]) hx hb dX4_valueOn_59 hl (k := 5) rfl (nI_1 i) (by decide) rfl (fun ls hl => ?_)
          refine lv_goto (tgt := 6) hx hb dX4_valueOn_62 (by decide) ?_
          exact ih (i + 1) best (by omega) (by first | exact hv | exact Or.inr (vp_in_nI (by omega) (by decide))) (by rw [hE, flX4_valueOn_6, if_pos c_26]) ls (lv_sub hl [1, 2, 3, 4, 5, 0, 6] rfl)
        · refine lv_aload_n hx hb dX4_valueOn_29 rfl (lv_at hl 0 rfl) ?_
          refine va_get (D := (dC, dI)) (ci := 4) (v := .ref (q 14)) (C := RX4) (T := TX4) (N := 5) hx hb hts inX4 hown hK hP 13 rfl rfl 0 (by decide) (hts _ fl_X4_14) (fun _ h9 => h9) rfl dX4_valueOn_30 ?_
          refine lv_iload hx hb dX4_valueOn_33 (lv_at hl 5 rfl) ?_
          refine lv_iload hx hb dX4_valueOn_35 (lv_at hl 4 rfl) ?_
          refine xc_i (va_runV (As := [.int (nI i), .int p4]) (rest := []) ⟨hx, hb, hml, hown, hts⟩ (c_X3_isKnown_T l dC dI cI cJ q σ (nI i) p4 (by assumption)) (cwV 2 hts (gV ml_X4_52 im_X3_isKnown se_X3_isKnown in_X3 co_X3_isKnown) rfl rfl rfl (by decide +kernel) ⟨Nat.le_of_ble_eq_true rfl, Nat.le_of_ble_eq_true rfl⟩) (preV hK hP (pos := 14) (ci := 3) rfl rfl) rfl rfl hl.1 rfl (lv_room (Nat.le_of_ble_eq_true rfl)) dX4_valueOn_37 ⟨Nat.zero_le _, Nat.zero_le _⟩) ?_
          refine lv_if_eq (tgt := 59) hx hb dX4_valueOn_40 (by decide) (fun c_40 => ?_) (fun c_40 => ?_)
          · refine lv_iinc (v := nI (i + 1)) (lv' := [(6, .int (nI (i + 1))), (0, .ref (q 13)), (1, .int p1), (2, .int p2), (3, .int p3), (4, .int p4), (5, .int best)]) hx hb dX4_valueOn_59 hl (k := 5) rfl (nI_1 i) (by decide) rfl (fun ls hl => ?_)
            refine lv_goto (tgt := 6) hx hb dX4_valueOn_62 (by decide) ?_
            exact ih (i + 1) best (by omega) (by first | exact hv | exact Or.inr (vp_in_nI (by omega) (by decide))) (by rw [hE, flX4_valueOn_6, if_neg c_26, if_pos c_40]) ls (lv_sub hl [1, 2, 3, 4, 5, 0, 6] rfl)
          · refine lv_aload_n hx hb dX4_valueOn_43 rfl (lv_at hl 0 rfl) ?_
            refine lv_iload hx hb dX4_valueOn_44 (lv_at hl 5 rfl) ?_
            refine lv_iload hx hb dX4_valueOn_46 (lv_at hl 6 rfl) ?_
            refine lv_iload_n hx hb dX4_valueOn_48 rfl (lv_at hl 3 rfl) ?_
            refine xc_i (va_runV (As := [.int (nI i), .int best, .int p3]) (rest := []) ⟨hx, hb, hml, hown, hts⟩ (c_X4_outdoes l dC dI cI cJ q σ (nI i) best p3 (vp_in_nI (by omega) (by decide)) hv) (cwV 3 hts (gV ml_X4_56 im_X4_outdoes se_X4_outdoes in_X4 co_X4_outdoes) rfl rfl rfl (by decide +kernel) ⟨Nat.le_of_ble_eq_true rfl, Nat.le_of_ble_eq_true rfl⟩) (preV hK hP (pos := 13) (ci := 4) rfl rfl) rfl rfl hl.1 rfl (lv_room (Nat.le_of_ble_eq_true rfl)) dX4_valueOn_49 ⟨Nat.zero_le _, Nat.zero_le _⟩) ?_
            refine lv_if_eq (tgt := 59) hx hb dX4_valueOn_52 (by decide) (fun c_52 => ?_) (fun c_52 => ?_)
            · refine lv_iinc (v := nI (i + 1)) (lv' := [(6, .int (nI (i + 1))), (0, .ref (q 13)), (1, .int p1), (2, .int p2), (3, .int p3), (4, .int p4), (5, .int best)]) hx hb dX4_valueOn_59 hl (k := 5) rfl (nI_1 i) (by decide) rfl (fun ls hl => ?_)
              refine lv_goto (tgt := 6) hx hb dX4_valueOn_62 (by decide) ?_
              exact ih (i + 1) best (by omega) (by first | exact hv | exact Or.inr (vp_in_nI (by omega) (by decide))) (by rw [hE, flX4_valueOn_6, if_neg c_26, if_neg c_40, if_pos c_52]) ls (lv_sub hl [1, 2, 3, 4, 5, 0, 6] rfl)
            · refine lv_iload hx hb dX4_valueOn_55 (lv_at hl 5 rfl) ?_
              refine lv_istore (lv' := [(5, .int (nI i)), (0, .ref (q 13)), (1, .int p1), (2, .int p2), (3, .int p3), (4, .int p4), (6, .int (nI i))]) hx hb dX4_valueOn_57 hl (by decide) rfl (fun ls hl => ?_)
              refine lv_iinc (v := nI (i + 1)) (lv' := [(6, .int (nI (i + 1))), (5, .int (nI i)), (0, .ref (q 13)), (1, .int p1), (2, .int p2), (3, .int p3), (4, .int p4)]) hx hb dX4_valueOn_59 hl (k := 6) rfl (nI_1 i) (by decide) rfl (fun ls hl => ?_)
              refine lv_goto (tgt := 6) hx hb dX4_valueOn_62 (by decide) ?_
              exact ih (i + 1) (nI i) (by omega) (by first | exact hv | exact Or.inr (vp_in_nI (by omega) (by decide))) (by rw [hE, flX4_valueOn_6, if_neg c_26, if_neg c_40, if_neg c_52]) ls (lv_sub hl [2, 3, 4, 5, 6, 0, 1] rfl)
  exact loop_6 ((σ.2.1 3).toNatClampNeg) 0 (-1) (by rw [Nat.zero_add]) (Or.inl rfl) (by rw [fX4_valueOn]) ls (lv_sub hl [2, 3, 4, 5, 6, 0, 1] rfl)

def flX4_timesToldOver_9 (σ : St) (p1 : Int32) (p2 : Int32) : Nat → Nat → Int32 → Int32 → Int32
  | 0, i, n, ahead => n
  | k + 1, i, n, ahead => (if (fX4_isOf σ (nI i) p1 1) = 0 then flX4_timesToldOver_9 σ p1 p2 k (i + 1) n ahead else (if (fX3_isKnown_T σ (nI i) p2) = 0 then flX4_timesToldOver_9 σ p1 p2 k (i + 1) n ahead else (if ahead = 100 then flX4_timesToldOver_9 σ p1 p2 k (i + 1) n (σ.1 12 i) else (if ahead = (σ.1 12 i) then flX4_timesToldOver_9 σ p1 p2 k (i + 1) n (σ.1 12 i) else flX4_timesToldOver_9 σ p1 p2 k (i + 1) (n + 1) (σ.1 12 i)))))
def fX4_timesToldOver (σ : St) (p1 : Int32) (p2 : Int32) : Int32 :=
  flX4_timesToldOver_9 σ p1 p2 ((σ.2.1 3).toNatClampNeg) 0 0 100
set_option maxHeartbeats 4000000 in
set_option maxRecDepth 100000 in
theorem c_X4_timesToldOver (l : Launch) (dC : Nat → ClassId) (dI : Nat → Nat → Nat) (cI cJ : ClassId) (q : Nat → Nat) (σ : St) (p1 : Int32) (p2 : Int32) (hI : IB σ) : Met l yX4_timesToldOver (.code yX4_timesToldOver cX4_timesToldOver 6 (some .int) :: tb) { frames := 2, cells := 0, slots := 0, locals := 44 } (Pu (dC, dI) (tyC cI cJ) (wT cI cJ q σ) [.ref (q 13), .int p1, .int p2]) (vp_Si (fun r => r = fX4_timesToldOver σ p1 p2)) 0 0 (fun _ => False) := by
  refine Met.ofW (cc := cX4_timesToldOver) (maxL := 6) (ret := (some .int)) (by decide) rfl ?_
  intro p e s m args below meth c s₁ B hml hv
  obtain ⟨rfl, hP, hK⟩ := hv
  have hx := B.exec
  have hb := B.bytes
  have hr := B.returns
  have hts0 := atoms_spec (ws := .code yX4_timesToldOver cX4_timesToldOver 6 (some .int) :: tb) B.pre
  have hts : ∀ w ∈ tb, w.before _ s = true := fun w hw => hts0 w (List.mem_cons_of_mem _ hw)
  have hown : s.vm.findClass RX4 = some m.cls := findClass_of_methodNamed B.named
  have hlocks := B.notSynchronized
  have hl := lv_entry ([.ref (q 13), .int p1, .int p2]) (n := 6) (Nat.le_of_ble_eq_true rfl)
  rw [lg_entry_eq]
  generalize (lg_sl ([.ref (q 13), .int p1, .int p2]) ++ List.replicate (6 - (lg_sl ([.ref (q 13), .int p1, .int p2])).length) Slot.unset).toArray = ls at hl ⊢
  have hl : lv_has ls 6 [(0, .ref (q 13)), (1, .int p1), (2, .int p2)] := hl
  refine lv_iconst (v := 0) hx hb dX4_timesToldOver_0 (by decide) ?_
  refine lv_istore_n (lv' := [(3, .int 0), (0, .ref (q 13)), (1, .int p1), (2, .int p2)]) hx hb dX4_timesToldOver_1 rfl hl (by decide) rfl (fun ls hl => ?_)
  refine lv_bipush (v := 100) hx hb dX4_timesToldOver_2 (by decide) ?_
  refine lv_istore (lv' := [(4, .int 100), (3, .int 0), (0, .ref (q 13)), (1, .int p1), (2, .int p2)]) hx hb dX4_timesToldOver_4 hl (by decide) rfl (fun ls hl => ?_)
  refine lv_iconst (v := 0) hx hb dX4_timesToldOver_6 (by decide) ?_
  refine lv_istore (lv' := [(5, .int 0), (4, .int 100), (3, .int 0), (0, .ref (q 13)), (1, .int p1), (2, .int p2)]) hx hb dX4_timesToldOver_7 hl (by decide) rfl (fun ls hl => ?_)
  have hz : szI (σ.2.1 3) 300 := hI.2.2.1
  have hz2 := hz.2
  have loop_9 : ∀ (k i : Nat) (n : Int32) (ahead : Int32), i + k = (σ.2.1 3).toNatClampNeg → fX4_timesToldOver σ p1 p2 = flX4_timesToldOver_9 σ p1 p2 k i n ahead → ∀ (ls : Array Slot), lv_has ls 6 [(0, .ref (q 13)), (1, .int p1), (2, .int p2), (5, .int (nI i)), (3, .int n), (4, .int ahead)] → W p l e (headSpec (.code yX4_timesToldOver cX4_timesToldOver 6 (some .int) :: tb) { frames := 2, cells := 0, slots := 0, locals := 44 }).room s m (List.toArray [.ref (q 13), .int p1, .int p2]) below meth c s.heap [] 0 0 (MQ below (vp_Si (fun r => r = fX4_timesToldOver σ p1 p2)) (List.toArray [.ref (q 13), .int p1, .int p2]) s 0 0 (fun _ => False)) (F0 m 9 ls []) := by
    intro k
    induction k with
    | zero =>
      intro i n ahead hik hE ls hl
      refine lv_iload hx hb dX4_timesToldOver_9 (lv_at hl 3 rfl) ?_
      refine lv_aload_n hx hb dX4_timesToldOver_11 rfl (lv_at hl 0 rfl) ?_
      refine va_get (D := (dC, dI)) (ci := 4) (v := .ref (q 14)) (C := RX4) (T := TX4) (N := 5) hx hb hts inX4 hown hK hP 13 rfl rfl 0 (by decide) (hts _ fl_X4_14) (fun _ h9 => h9) rfl dX4_timesToldOver_12 ?_
      refine xc_i (va_runV (As := []) (rest := [.int (nI i)]) ⟨hx, hb, hml, hown, hts⟩ (c_X3_size_T l dC dI cI cJ q σ ) (cwV 0 hts (gV ml_X4_33 im_X3_size se_X3_size in_X3 co_X3_size) rfl rfl rfl (by decide +kernel) ⟨Nat.le_of_ble_eq_true rfl, Nat.le_of_ble_eq_true rfl⟩) (preV hK hP (pos := 14) (ci := 3) rfl rfl) rfl rfl hl.1 rfl (lv_room (Nat.le_of_ble_eq_true rfl)) dX4_timesToldOver_15 ⟨Nat.zero_le _, Nat.zero_le _⟩) ?_
      refine lv_icmp_ge (tgt := 82) hx hb dX4_timesToldOver_18 (by decide) (fun c_18 => ?_) (fun c_18 => ?_)
      · refine lv_iload_n hx hb dX4_timesToldOver_82 rfl (lv_at hl 4 rfl) ?_
        exact W.iret (v := n) hx hb hr (fun t ht hW => ⟨_, rfl, (by rw [hE, flX4_timesToldOver_9]), ht⟩) (fun _ h => absurd h List.not_mem_nil) dX4_timesToldOver_83
      · exact absurd (by rw [hz.1]; exact nI_le (by omega) (by omega)) c_18
    | succ k ih =>
      intro i n ahead hik hE ls hl
      refine lv_iload hx hb dX4_timesToldOver_9 (lv_at hl 3 rfl) ?_
      refine lv_aload_n hx hb dX4_timesToldOver_11 rfl (lv_at hl 0 rfl) ?_
      refine va_get (D := (dC, dI)) (ci := 4) (v := .ref (q 14)) (C := RX4) (T := TX4) (N := 5) hx hb hts inX4 hown hK hP 13 rfl rfl 0 (by decide) (hts _ fl_X4_14) (fun _ h9 => h9) rfl dX4_timesToldOver_12 ?_
      refine xc_i (va_runV (As := []) (rest := [.int (nI i)]) ⟨hx, hb, hml, hown, hts⟩ (c_X3_size_T l dC dI cI cJ q σ ) (cwV 0 hts (gV ml_X4_33 im_X3_size se_X3_size in_X3 co_X3_size) rfl rfl rfl (by decide +kernel) ⟨Nat.le_of_ble_eq_true rfl, Nat.le_of_ble_eq_true rfl⟩) (preV hK hP (pos := 14) (ci := 3) rfl rfl) rfl rfl hl.1 rfl (lv_room (Nat.le_of_ble_eq_true rfl)) dX4_timesToldOver_15 ⟨Nat.zero_le _, Nat.zero_le _⟩) ?_
      refine lv_icmp_ge (tgt := 82) hx hb dX4_timesToldOver_18 (by decide) (fun c_18 => ?_) (fun c_18 => ?_)
      · exact absurd c_18 (by rw [hz.1]; exact nI_ge (by omega) (by omega))
      · refine lv_aload_n hx hb dX4_timesToldOver_21 rfl (lv_at hl 0 rfl) ?_
        refine lv_iload hx hb dX4_timesToldOver_22 (lv_at hl 3 rfl) ?_
        refine lv_iload_n hx hb dX4_timesToldOver_24 rfl (lv_at hl 1 rfl) ?_
        refine lv_iconst (v := 1) hx hb dX4_timesToldOver_25 (by decide) ?_
        refine xc_i (va_runV (As := [.int (nI i), .int p1, .int 1]) (rest := []) ⟨hx, hb, hml, hown, hts⟩ (c_X4_isOf l dC dI cI cJ q σ (nI i) p1 1 (vp_in_nI (by omega) (by decide))) (cwV 3 hts (gV ml_X4_48 im_X4_isOf se_X4_isOf in_X4 co_X4_isOf) rfl rfl rfl (by decide +kernel) ⟨Nat.le_of_ble_eq_true rfl, Nat.le_of_ble_eq_true rfl⟩) (preV hK hP (pos := 13) (ci := 4) rfl rfl) rfl rfl hl.1 rfl (lv_room (Nat.le_of_ble_eq_true rfl)) dX4_timesToldOver_26 ⟨Nat.zero_le _, Nat.zero_le _⟩) ?_
        refine lv_if_eq (tgt := 76) hx hb dX4_timesToldOver_29 (by decide) (fun c_29 => ?_) (fun c_29 => ?_)
        · refine lv_iinc (v := nI (i + 1)) (lv' := [(5, .int (nI (i + 1))), (0, .ref (q 13)), (1, .int p1), (2, .int p2), (3, .int n), (4, .int ahead)]) hx hb dX4_timesToldOver_76 hl (k := 3) rfl (nI_1 i) (by decide) rfl (fun ls hl => ?_)
          refine lv_goto (tgt := 9) hx hb dX4_timesToldOver_79 (by decide) ?_
          exact ih (i + 1) n ahead (by omega) (by rw [hE, flX4_timesToldOver_9, if_pos c_29]) ls (lv_sub hl [1, 2, 3, 0, 4, 5] rfl)
        · refine lv_aload_n hx hb dX4_timesToldOver_32 rfl (lv_at hl 0 rfl) ?_
          refine va_get (D := (dC, dI)) (ci := 4) (v := .ref (q 14)) (C := RX4) (T := TX4) (N := 5) hx hb hts inX4 hown hK hP 13 rfl rfl 0 (by decide) (hts _ fl_X4_14) (fun _ h9 => h9) rfl dX4_timesToldOver_33 ?_
          refine lv_iload hx hb dX4_timesToldOver_36 (lv_at hl 3 rfl) ?_
          refine lv_iload_n hx hb dX4_timesToldOver_38 rfl (lv_at hl 2 rfl) ?_
          refine xc_i (va_runV (As := [.int (nI i), .int p2]) (rest := []) ⟨hx, hb, hml, hown, hts⟩ (c_X3_isKnown_T l dC dI cI cJ q σ (nI i) p2 (by assumption)) (cwV 2 hts (gV ml_X4_52 im_X3_isKnown se_X3_isKnown in_X3 co_X3_isKnown) rfl rfl rfl (by decide +kernel) ⟨Nat.le_of_ble_eq_true rfl, Nat.le_of_ble_eq_true rfl⟩) (preV hK hP (pos := 14) (ci := 3) rfl rfl) rfl rfl hl.1 rfl (lv_room (Nat.le_of_ble_eq_true rfl)) dX4_timesToldOver_39 ⟨Nat.zero_le _, Nat.zero_le _⟩) ?_
          refine lv_if_eq (tgt := 76) hx hb dX4_timesToldOver_42 (by decide) (fun c_42 => ?_) (fun c_42 => ?_)
          · refine lv_iinc (v := nI (i + 1)) (lv' := [(5, .int (nI (i + 1))), (0, .ref (q 13)), (1, .int p1), (2, .int p2), (3, .int n), (4, .int ahead)]) hx hb dX4_timesToldOver_76 hl (k := 3) rfl (nI_1 i) (by decide) rfl (fun ls hl => ?_)
            refine lv_goto (tgt := 9) hx hb dX4_timesToldOver_79 (by decide) ?_
            exact ih (i + 1) n ahead (by omega) (by rw [hE, flX4_timesToldOver_9, if_neg c_29, if_pos c_42]) ls (lv_sub hl [1, 2, 3, 0, 4, 5] rfl)
          · refine lv_iload hx hb dX4_timesToldOver_45 (lv_at hl 5 rfl) ?_
            refine lv_bipush (v := 100) hx hb dX4_timesToldOver_47 (by decide) ?_
            refine lv_icmp_eq (tgt := 67) hx hb dX4_timesToldOver_49 (by decide) (fun c_49 => ?_) (fun c_49 => ?_)
            · refine lv_aload_n hx hb dX4_timesToldOver_67 rfl (lv_at hl 0 rfl) ?_
              refine va_get (D := (dC, dI)) (ci := 4) (v := .ref (q 18)) (C := RX4) (T := TX4) (N := 5) hx hb hts inX4 hown hK hP 13 rfl rfl 4 (by decide) (hts _ fl_X4_30) (fun _ h9 => h9) rfl dX4_timesToldOver_68 ?_
              refine lv_iload hx hb dX4_timesToldOver_71 (lv_at hl 3 rfl) ?_
              refine xa_ild hx hb hK hP 18 0 rfl rfl (by omega) (by decide) dX4_timesToldOver_73 ?_
              refine lv_istore (lv' := [(4, .int (σ.1 12 i)), (0, .ref (q 13)), (1, .int p1), (2, .int p2), (5, .int (nI i)), (3, .int n)]) hx hb dX4_timesToldOver_74 hl (by decide) rfl (fun ls hl => ?_)
              refine lv_iinc (v := nI (i + 1)) (lv' := [(5, .int (nI (i + 1))), (4, .int (σ.1 12 i)), (0, .ref (q 13)), (1, .int p1), (2, .int p2), (3, .int n)]) hx hb dX4_timesToldOver_76 hl (k := 4) rfl (nI_1 i) (by decide) rfl (fun ls hl => ?_)
              refine lv_goto (tgt := 9) hx hb dX4_timesToldOver_79 (by decide) ?_
              exact ih (i + 1) n (σ.1 12 i) (by omega) (by rw [hE, flX4_timesToldOver_9, if_neg c_29, if_neg c_42, if_pos c_49]) ls (lv_sub hl [2, 3, 4, 0, 5, 1] rfl)
            · refine lv_iload hx hb dX4_timesToldOver_52 (lv_at hl 5 rfl) ?_
              refine lv_aload_n hx hb dX4_timesToldOver_54 rfl (lv_at hl 0 rfl) ?_
              refine va_get (D := (dC, dI)) (ci := 4) (v := .ref (q 18)) (C := RX4) (T := TX4) (N := 5) hx hb hts inX4 hown hK hP 13 rfl rfl 4 (by decide) (hts _ fl_X4_30) (fun _ h9 => h9) rfl dX4_timesToldOver_55 ?_
              refine lv_iload hx hb dX4_timesToldOver_58 (lv_at hl 3 rfl) ?_
              refine xa_ild hx hb hK hP 18 0 rfl rfl (by omega) (by decide) dX4_timesToldOver_60 ?_
              refine lv_icmp_eq (tgt := 67) hx hb dX4_timesToldOver_61 (by decide) (fun c_61 => ?_) (fun c_61 => ?_)
              · refine lv_aload_n hx hb dX4_timesToldOver_67 rfl (lv_at hl 0 rfl) ?_
                refine va_get (D := (dC, dI)) (ci := 4) (v := .ref (q 18)) (C := RX4) (T := TX4) (N := 5) hx hb hts inX4 hown hK hP 13 rfl rfl 4 (by decide) (hts _ fl_X4_30) (fun _ h9 => h9) rfl dX4_timesToldOver_68 ?_
                refine lv_iload hx hb dX4_timesToldOver_71 (lv_at hl 3 rfl) ?_
                refine xa_ild hx hb hK hP 18 0 rfl rfl (by omega) (by decide) dX4_timesToldOver_73 ?_
                refine lv_istore (lv' := [(4, .int (σ.1 12 i)), (0, .ref (q 13)), (1, .int p1), (2, .int p2), (5, .int (nI i)), (3, .int n)]) hx hb dX4_timesToldOver_74 hl (by decide) rfl (fun ls hl => ?_)
                refine lv_iinc (v := nI (i + 1)) (lv' := [(5, .int (nI (i + 1))), (4, .int (σ.1 12 i)), (0, .ref (q 13)), (1, .int p1), (2, .int p2), (3, .int n)]) hx hb dX4_timesToldOver_76 hl (k := 4) rfl (nI_1 i) (by decide) rfl (fun ls hl => ?_)
                refine lv_goto (tgt := 9) hx hb dX4_timesToldOver_79 (by decide) ?_
                exact ih (i + 1) n (σ.1 12 i) (by omega) (by rw [hE, flX4_timesToldOver_9, if_neg c_29, if_neg c_42, if_neg c_49, if_pos c_61]) ls (lv_sub hl [2, 3, 4, 0, 5, 1] rfl)
              · refine lv_iinc (v := n + 1) (lv' := [(3, .int (n + 1)), (0, .ref (q 13)), (1, .int p1), (2, .int p2), (5, .int (nI i)), (4, .int ahead)]) hx hb dX4_timesToldOver_64 hl (k := 4) rfl rfl (by decide) rfl (fun ls hl => ?_)
                refine lv_aload_n hx hb dX4_timesToldOver_67 rfl (lv_at hl 1 rfl) ?_
                refine va_get (D := (dC, dI)) (ci := 4) (v := .ref (q 18)) (C := RX4) (T := TX4) (N := 5) hx hb hts inX4 hown hK hP 13 rfl rfl 4 (by decide) (hts _ fl_X4_30) (fun _ h9 => h9) rfl dX4_timesToldOver_68 ?_
                refine lv_iload hx hb dX4_timesToldOver_71 (lv_at hl 4 rfl) ?_
                refine xa_ild hx hb hK hP 18 0 rfl rfl (by omega) (by decide) dX4_timesToldOver_73 ?_
                refine lv_istore (lv' := [(4, .int (σ.1 12 i)), (3, .int (n + 1)), (0, .ref (q 13)), (1, .int p1), (2, .int p2), (5, .int (nI i))]) hx hb dX4_timesToldOver_74 hl (by decide) rfl (fun ls hl => ?_)
                refine lv_iinc (v := nI (i + 1)) (lv' := [(5, .int (nI (i + 1))), (4, .int (σ.1 12 i)), (3, .int (n + 1)), (0, .ref (q 13)), (1, .int p1), (2, .int p2)]) hx hb dX4_timesToldOver_76 hl (k := 5) rfl (nI_1 i) (by decide) rfl (fun ls hl => ?_)
                refine lv_goto (tgt := 9) hx hb dX4_timesToldOver_79 (by decide) ?_
                exact ih (i + 1) (n + 1) (σ.1 12 i) (by omega) (by rw [hE, flX4_timesToldOver_9, if_neg c_29, if_neg c_42, if_neg c_49, if_neg c_61]) ls (lv_sub hl [3, 4, 5, 0, 2, 1] rfl)
  exact loop_9 ((σ.2.1 3).toNatClampNeg) 0 0 100 (by rw [Nat.zero_add]) (by rw [fX4_timesToldOver]) ls (lv_sub hl [3, 4, 5, 0, 2, 1] rfl)

def fX4_add (σ : St) (p1 : Int32) (p2 : Int32) (p3 : Int32) (p4 : Int32) (p5 : Int32) : St :=
  (if ((fX3_add_T σ p5).1) = (-1) then (fX3_add_T σ p5).2 else (sI (sI (sI (sI (fX3_add_T σ p5).2 9 (((fX3_add_T σ p5).1).toNatClampNeg) p1) 10 (((fX3_add_T σ p5).1).toNatClampNeg) p2) 11 (((fX3_add_T σ p5).1).toNatClampNeg) p3) 12 (((fX3_add_T σ p5).1).toNatClampNeg) p4))
set_option maxHeartbeats 4000000 in
set_option maxRecDepth 100000 in
theorem c_X4_add (l : Launch) (dC : Nat → ClassId) (dI : Nat → Nat → Nat) (cI cJ : ClassId) (q : Nat → Nat) (σ : St) (p1 : Int32) (p2 : Int32) (p3 : Int32) (p4 : Int32) (p5 : Int32) (hd : dT 30 q) (hI : IB σ) : Met l yX4_add (.code yX4_add cX4_add 7 none :: tb) { frames := 2, cells := 0, slots := 0, locals := 41 } (Pu (dC, dI) (tyC cI cJ) (wT cI cJ q σ) [.ref (q 13), .int p1, .int p2, .int p3, .int p4, .int p5]) (xw_Q none (dC, dI) (wT cI cJ q (fX4_add σ p1 p2 p3 p4 p5)) (aT 30 q)) 0 0 (aT 30 q) := by
  refine Met.ofW (cc := cX4_add) (maxL := 7) (ret := none) (by decide) rfl ?_
  intro p e s m args below meth c s₁ B hml hv
  obtain ⟨rfl, hP, hK⟩ := hv
  have hx := B.exec
  have hb := B.bytes
  have hr := B.returns
  have hts0 := atoms_spec (ws := .code yX4_add cX4_add 7 none :: tb) B.pre
  have hts : ∀ w ∈ tb, w.before _ s = true := fun w hw => hts0 w (List.mem_cons_of_mem _ hw)
  have hown : s.vm.findClass RX4 = some m.cls := findClass_of_methodNamed B.named
  have hlocks := B.notSynchronized
  have hl := lv_entry ([.ref (q 13), .int p1, .int p2, .int p3, .int p4, .int p5]) (n := 7) (Nat.le_of_ble_eq_true rfl)
  rw [lg_entry_eq]
  generalize (lg_sl ([.ref (q 13), .int p1, .int p2, .int p3, .int p4, .int p5]) ++ List.replicate (7 - (lg_sl ([.ref (q 13), .int p1, .int p2, .int p3, .int p4, .int p5])).length) Slot.unset).toArray = ls at hl ⊢
  have hl : lv_has ls 7 [(0, .ref (q 13)), (1, .int p1), (2, .int p2), (3, .int p3), (4, .int p4), (5, .int p5)] := hl
  obtain ⟨H, hHe⟩ : ∃ H, s.heap = H := ⟨_, rfl⟩
  rw [hHe] at hP ⊢
  obtain ⟨locs, hLe⟩ : ∃ x : List Loc, ([] : List Loc) = x := ⟨_, rfl⟩
  rw [hLe]
  have hS : va_S (aT 30 q) s.heap H locs := by rw [← hHe, ← hLe]; exact va_S.rf
  refine lv_aload_n hx hb dX4_add_0 rfl (lv_at hl 0 rfl) ?_
  refine va_get (D := (dC, dI)) (ci := 4) (v := .ref (q 14)) (C := RX4) (T := TX4) (N := 5) hx hb hts inX4 hown hK hP 13 rfl rfl 0 (by decide) (hts _ fl_X4_14) (fun _ h9 => h9) rfl dX4_add_1 ?_
  refine lv_iload hx hb dX4_add_4 (lv_at hl 5 rfl) ?_
  refine xw_c (va_runV (As := [.int p5]) (rest := []) ⟨hx, hb, hml, hown, hts⟩ (c_X3_add_T l dC dI cI cJ q σ p5 (by assumption) (by assumption)) (cwV 1 hts (gV ml_X4_45 im_X3_add se_X3_add in_X3 co_X3_add) rfl rfl rfl (by decide +kernel) ⟨Nat.le_of_ble_eq_true rfl, Nat.le_of_ble_eq_true rfl⟩) (preV hK hP (pos := 14) (ci := 3) rfl rfl) rfl rfl hl.1 rfl (lv_room (Nat.le_of_ble_eq_true rfl)) dX4_add_6 ⟨Nat.zero_le _, Nat.zero_le _⟩) hS (fun _ h => h) (fun H locs hP _ _ hS => ?_)
  have hP : va_P (dC, dI) vwCl (wT cI cJ q (fX3_add_T σ p5).2) H := hP
  refine W.eq (g2 := F0 m 9 ls [.int ((fX3_add_T σ p5).1)]) rfl ?_
  refine lv_istore (lv' := [(6, .int ((fX3_add_T σ p5).1)), (0, .ref (q 13)), (1, .int p1), (2, .int p2), (3, .int p3), (4, .int p4), (5, .int p5)]) hx hb dX4_add_9 hl (by decide) rfl (fun ls hl => ?_)
  refine lv_iload hx hb dX4_add_11 (lv_at hl 0 rfl) ?_
  refine lv_iconst (v := (-1)) hx hb dX4_add_13 (by decide) ?_
  refine lv_icmp_ne (tgt := 18) hx hb dX4_add_14 (by decide) (fun c_14 => ?_) (fun c_14 => ?_)
  · refine lv_aload_n hx hb dX4_add_18 rfl (lv_at hl 1 rfl) ?_
    refine va_get (D := (dC, dI)) (ci := 4) (v := .ref (q 15)) (C := RX4) (T := TX4) (N := 5) hx hb hts inX4 hown hK hP 13 rfl rfl 1 (by decide) (hts _ fl_X4_20) (fun _ h9 => h9) rfl dX4_add_19 ?_
    refine lv_iload hx hb dX4_add_22 (lv_at hl 0 rfl) ?_
    refine lv_iload_n hx hb dX4_add_24 rfl (lv_at hl 2 rfl) ?_
    refine va_iast hx hb hK hP (wT_D hd) hS 15 0 rfl rfl (add_in_T hI c_14) dX4_add_25 (fun H locs hP _ hS => ?_)
    have hP : va_P (dC, dI) vwCl (wT cI cJ q (sI (fX3_add_T σ p5).2 9 (((fX3_add_T σ p5).1).toNatClampNeg) p1)) H := hP
    refine lv_aload_n hx hb dX4_add_26 rfl (lv_at hl 1 rfl) ?_
    refine va_get (D := (dC, dI)) (ci := 4) (v := .ref (q 16)) (C := RX4) (T := TX4) (N := 5) hx hb hts inX4 hown hK hP 13 rfl rfl 2 (by decide) (hts _ fl_X4_24) (fun _ h9 => h9) rfl dX4_add_27 ?_
    refine lv_iload hx hb dX4_add_30 (lv_at hl 0 rfl) ?_
    refine lv_iload_n hx hb dX4_add_32 rfl (lv_at hl 3 rfl) ?_
    refine va_iast hx hb hK hP (wT_D hd) hS 16 0 rfl rfl (add_in_T hI c_14) dX4_add_33 (fun H locs hP _ hS => ?_)
    have hP : va_P (dC, dI) vwCl (wT cI cJ q (sI (sI (fX3_add_T σ p5).2 9 (((fX3_add_T σ p5).1).toNatClampNeg) p1) 10 (((fX3_add_T σ p5).1).toNatClampNeg) p2)) H := hP
    refine lv_aload_n hx hb dX4_add_34 rfl (lv_at hl 1 rfl) ?_
    refine va_get (D := (dC, dI)) (ci := 4) (v := .ref (q 17)) (C := RX4) (T := TX4) (N := 5) hx hb hts inX4 hown hK hP 13 rfl rfl 3 (by decide) (hts _ fl_X4_27) (fun _ h9 => h9) rfl dX4_add_35 ?_
    refine lv_iload hx hb dX4_add_38 (lv_at hl 0 rfl) ?_
    refine lv_iload_n hx hb dX4_add_40 rfl (lv_at hl 4 rfl) ?_
    refine va_iast hx hb hK hP (wT_D hd) hS 17 0 rfl rfl (add_in_T hI c_14) dX4_add_41 (fun H locs hP _ hS => ?_)
    have hP : va_P (dC, dI) vwCl (wT cI cJ q (sI (sI (sI (fX3_add_T σ p5).2 9 (((fX3_add_T σ p5).1).toNatClampNeg) p1) 10 (((fX3_add_T σ p5).1).toNatClampNeg) p2) 11 (((fX3_add_T σ p5).1).toNatClampNeg) p3)) H := hP
    refine lv_aload_n hx hb dX4_add_42 rfl (lv_at hl 1 rfl) ?_
    refine va_get (D := (dC, dI)) (ci := 4) (v := .ref (q 18)) (C := RX4) (T := TX4) (N := 5) hx hb hts inX4 hown hK hP 13 rfl rfl 4 (by decide) (hts _ fl_X4_30) (fun _ h9 => h9) rfl dX4_add_43 ?_
    refine lv_iload hx hb dX4_add_46 (lv_at hl 0 rfl) ?_
    refine lv_iload hx hb dX4_add_48 (lv_at hl 5 rfl) ?_
    refine va_iast hx hb hK hP (wT_D hd) hS 18 0 rfl rfl (add_in_T hI c_14) dX4_add_50 (fun H locs hP _ hS => ?_)
    have hP : va_P (dC, dI) vwCl (wT cI cJ q (sI (sI (sI (sI (fX3_add_T σ p5).2 9 (((fX3_add_T σ p5).1).toNatClampNeg) p1) 10 (((fX3_add_T σ p5).1).toNatClampNeg) p2) 11 (((fX3_add_T σ p5).1).toNatClampNeg) p3) 12 (((fX3_add_T σ p5).1).toNatClampNeg) p4)) H := hP
    have hF : fX4_add σ p1 p2 p3 p4 p5 = (sI (sI (sI (sI (fX3_add_T σ p5).2 9 (((fX3_add_T σ p5).1).toNatClampNeg) p1) 10 (((fX3_add_T σ p5).1).toNatClampNeg) p2) 11 (((fX3_add_T σ p5).1).toNatClampNeg) p3) 12 (((fX3_add_T σ p5).1).toNatClampNeg) p4) := by rw [fX4_add, if_neg c_14]
    have hP9 : va_P (dC, dI) vwCl (wT cI cJ q (fX4_add σ p1 p2 p3 p4 p5)) H := by rw [hF]; exact hP
    exact W.vret hx hb hr (fun t ht hW => ⟨rfl, by rw [ht]; exact hP9, hS.F ht⟩) hS.2.2 dX4_add_51
  · have hF : fX4_add σ p1 p2 p3 p4 p5 = (fX3_add_T σ p5).2 := by rw [fX4_add, if_pos c_14]
    have hP9 : va_P (dC, dI) vwCl (wT cI cJ q (fX4_add σ p1 p2 p3 p4 p5)) H := by rw [hF]; exact hP
    exact W.vret hx hb hr (fun t ht hW => ⟨rfl, by rw [ht]; exact hP9, hS.F ht⟩) hS.2.2 dX4_add_17
