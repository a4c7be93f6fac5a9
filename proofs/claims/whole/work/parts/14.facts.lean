set_option maxHeartbeats 4000000 in
set_option maxRecDepth 100000 in
theorem c_X1_size (l : Launch) (dC : Nat → ClassId) (dI : Nat → Nat → Nat) (cI cJ : ClassId) (q : Nat → Nat) (σ : St) : Met l yX1_size (.code yX1_size cX1_size 1 (some .int) :: tb) { frames := 1, cells := 0, slots := 0, locals := 20 } (Pu (dC, dI) (tyC cI cJ) (wT cI cJ q σ) [.ref (q 21)]) (vp_Si (fun r => r = σ.2.1 2)) 0 0 (fun _ => False) := by
  refine Met.ofW (cc := cX1_size) (maxL := 1) (ret := (some .int)) (by decide) rfl ?_
  intro p e s m args below meth c s₁ B hml hv
  obtain ⟨rfl, hP, hK⟩ := hv
  have hx := B.exec
  have hb := B.bytes
  have hr := B.returns
  have hts0 := atoms_spec (ws := .code yX1_size cX1_size 1 (some .int) :: tb) B.pre
  have hts : ∀ w ∈ tb, w.before _ s = true := fun w hw => hts0 w (List.mem_cons_of_mem _ hw)
  have hown : s.vm.findClass RX1 = some m.cls := findClass_of_methodNamed B.named
  have hlocks := B.notSynchronized
  have hl := lv_entry ([.ref (q 21)]) (n := 1) (Nat.le_of_ble_eq_true rfl)
  rw [lg_entry_eq]
  generalize (lg_sl ([.ref (q 21)]) ++ List.replicate (1 - (lg_sl ([.ref (q 21)])).length) Slot.unset).toArray = ls at hl ⊢
  have hl : lv_has ls 1 [(0, .ref (q 21))] := hl
  refine lv_aload_n hx hb dX1_size_0 rfl (lv_at hl 0 rfl) ?_
  refine va_get (D := (dC, dI)) (ci := 1) (v := .ref (q 22)) (C := RX1) (T := TX1) (N := 4) hx hb hts inX1 hown hK hP 21 rfl rfl 0 (by decide) (hts _ fl_X1_14) (fun _ h9 => h9) rfl dX1_size_1 ?_
  refine xc_i (va_runV (As := []) (rest := []) ⟨hx, hb, hml, hown, hts⟩ (c_X3_size_F l dC dI cI cJ q σ ) (cwV 0 hts (gV ml_X1_30 im_X3_size se_X3_size in_X3 co_X3_size) rfl rfl rfl (by decide +kernel) ⟨Nat.le_of_ble_eq_true rfl, Nat.le_of_ble_eq_true rfl⟩) (preV hK hP (pos := 22) (ci := 3) rfl rfl) rfl rfl hl.1 rfl (lv_room (Nat.le_of_ble_eq_true rfl)) dX1_size_4 ⟨Nat.zero_le _, Nat.zero_le _⟩) ?_
  exact W.iret (v := σ.2.1 2) hx hb hr (fun t ht hW => ⟨_, rfl, rfl, ht⟩) (fun _ h => absurd h List.not_mem_nil) dX1_size_7

set_option maxHeartbeats 4000000 in
set_option maxRecDepth 100000 in
theorem c_X1_isFull (l : Launch) (dC : Nat → ClassId) (dI : Nat → Nat → Nat) (cI cJ : ClassId) (q : Nat → Nat) (σ : St) : Met l yX1_isFull (.code yX1_isFull cX1_isFull 1 (some .boolean) :: tb) { frames := 1, cells := 0, slots := 0, locals := 20 } (Pu (dC, dI) (tyC cI cJ) (wT cI cJ q σ) [.ref (q 21)]) (vp_Si (fun r => r = fX3_isFull_F σ)) 0 0 (fun _ => False) := by
  refine Met.ofW (cc := cX1_isFull) (maxL := 1) (ret := (some .boolean)) (by decide) rfl ?_
  intro p e s m args below meth c s₁ B hml hv
  obtain ⟨rfl, hP, hK⟩ := hv
  have hx := B.exec
  have hb := B.bytes
  have hr := B.returns
  have hts0 := atoms_spec (ws := .code yX1_isFull cX1_isFull 1 (some .boolean) :: tb) B.pre
  have hts : ∀ w ∈ tb, w.before _ s = true := fun w hw => hts0 w (List.mem_cons_of_mem _ hw)
  have hown : s.vm.findClass RX1 = some m.cls := findClass_of_methodNamed B.named
  have hlocks := B.notSynchronized
  have hl := lv_entry ([.ref (q 21)]) (n := 1) (Nat.le_of_ble_eq_true rfl)
  rw [lg_entry_eq]
  generalize (lg_sl ([.ref (q 21)]) ++ List.replicate (1 - (lg_sl ([.ref (q 21)])).length) Slot.unset).toArray = ls at hl ⊢
  have hl : lv_has ls 1 [(0, .ref (q 21))] := hl
  refine lv_aload_n hx hb dX1_isFull_0 rfl (lv_at hl 0 rfl) ?_
  refine va_get (D := (dC, dI)) (ci := 1) (v := .ref (q 22)) (C := RX1) (T := TX1) (N := 4) hx hb hts inX1 hown hK hP 21 rfl rfl 0 (by decide) (hts _ fl_X1_14) (fun _ h9 => h9) rfl dX1_isFull_1 ?_
  refine xc_i (va_runV (As := []) (rest := []) ⟨hx, hb, hml, hown, hts⟩ (c_X3_isFull_F l dC dI cI cJ q σ ) (cwV 0 hts (gV ml_X1_34 im_X3_isFull se_X3_isFull in_X3 co_X3_isFull) rfl rfl rfl (by decide +kernel) ⟨Nat.le_of_ble_eq_true rfl, Nat.le_of_ble_eq_true rfl⟩) (preV hK hP (pos := 22) (ci := 3) rfl rfl) rfl rfl hl.1 rfl (lv_room (Nat.le_of_ble_eq_true rfl)) dX1_isFull_4 ⟨Nat.zero_le _, Nat.zero_le _⟩) ?_
  exact W.zret (v := fX3_isFull_F σ) hx hb hr (nb_of (b_X3_isFull_F σ)) (fun t ht hW => ⟨_, rfl, rfl, ht⟩) (fun _ h => absurd h List.not_mem_nil) dX1_isFull_7

set_option maxHeartbeats 4000000 in
set_option maxRecDepth 100000 in
theorem c_X1_sizeOfLoad (l : Launch) (dC : Nat → ClassId) (dI : Nat → Nat → Nat) (cI cJ : ClassId) (q : Nat → Nat) (σ : St) (p1 : Int32) (hI : IB σ) : Met l yX1_sizeOfLoad (.code yX1_sizeOfLoad cX1_sizeOfLoad 2 (some .int) :: tb) { frames := 1, cells := 0, slots := 0, locals := 23 } (Pu (dC, dI) (tyC cI cJ) (wT cI cJ q σ) [.ref (q 21), .int p1]) (vp_Si (fun r => r = fX3_sizeOfLoad_F σ p1)) 0 0 (fun _ => False) := by
  refine Met.ofW (cc := cX1_sizeOfLoad) (maxL := 2) (ret := (some .int)) (by decide) rfl ?_
  intro p e s m args below meth c s₁ B hml hv
  obtain ⟨rfl, hP, hK⟩ := hv
  have hx := B.exec
  have hb := B.bytes
  have hr := B.returns
  have hts0 := atoms_spec (ws := .code yX1_sizeOfLoad cX1_sizeOfLoad 2 (some .int) :: tb) B.pre
  have hts : ∀ w ∈ tb, w.before _ s = true := fun w hw => hts0 w (List.mem_cons_of_mem _ hw)
  have hown : s.vm.findClass RX1 = some m.cls := findClass_of_methodNamed B.named
  have hlocks := B.notSynchronized
  have hl := lv_entry ([.ref (q 21), .int p1]) (n := 2) (Nat.le_of_ble_eq_true rfl)
  rw [lg_entry_eq]
  generalize (lg_sl ([.ref (q 21), .int p1]) ++ List.replicate (2 - (lg_sl ([.ref (q 21), .int p1])).length) Slot.unset).toArray = ls at hl ⊢
  have hl : lv_has ls 2 [(0, .ref (q 21)), (1, .int p1)] := hl
  refine lv_aload_n hx hb dX1_sizeOfLoad_0 rfl (lv_at hl 0 rfl) ?_
  refine va_get (D := (dC, dI)) (ci := 1) (v := .ref (q 22)) (C := RX1) (T := TX1) (N := 4) hx hb hts inX1 hown hK hP 21 rfl rfl 0 (by decide) (hts _ fl_X1_14) (fun _ h9 => h9) rfl dX1_sizeOfLoad_1 ?_
  refine lv_iload_n hx hb dX1_sizeOfLoad_4 rfl (lv_at hl 1 rfl) ?_
  refine xc_i (va_runV (As := [.int p1]) (rest := []) ⟨hx, hb, hml, hown, hts⟩ (c_X3_sizeOfLoad_F l dC dI cI cJ q σ p1 (by assumption)) (cwV 1 hts (gV ml_X1_38 im_X3_sizeOfLoad se_X3_sizeOfLoad in_X3 co_X3_sizeOfLoad) rfl rfl rfl (by decide +kernel) ⟨Nat.le_of_ble_eq_true rfl, Nat.le_of_ble_eq_true rfl⟩) (preV hK hP (pos := 22) (ci := 3) rfl rfl) rfl rfl hl.1 rfl (lv_room (Nat.le_of_ble_eq_true rfl)) dX1_sizeOfLoad_5 ⟨Nat.zero_le _, Nat.zero_le _⟩) ?_
  exact W.iret (v := fX3_sizeOfLoad_F σ p1) hx hb hr (fun t ht hW => ⟨_, rfl, rfl, ht⟩) (fun _ h => absurd h List.not_mem_nil) dX1_sizeOfLoad_8

set_option maxHeartbeats 4000000 in
set_option maxRecDepth 100000 in
theorem c_X1_isKnown (l : Launch) (dC : Nat → ClassId) (dI : Nat → Nat → Nat) (cI cJ : ClassId) (q : Nat → Nat) (σ : St) (p1 : Int32) (p2 : Int32) (hI : IB σ) : Met l yX1_isKnown (.code yX1_isKnown cX1_isKnown 3 (some .boolean) :: tb) { frames := 2, cells := 0, slots := 0, locals := 44 } (Pu (dC, dI) (tyC cI cJ) (wT cI cJ q σ) [.ref (q 21), .int p1, .int p2]) (vp_Si (fun r => r = fX3_isKnown_F σ p1 p2)) 0 0 (fun _ => False) := by
  refine Met.ofW (cc := cX1_isKnown) (maxL := 3) (ret := (some .boolean)) (by decide) rfl ?_
  intro p e s m args below meth c s₁ B hml hv
  obtain ⟨rfl, hP, hK⟩ := hv
  have hx := B.exec
  have hb := B.bytes
  have hr := B.returns
  have hts0 := atoms_spec (ws := .code yX1_isKnown cX1_isKnown 3 (some .boolean) :: tb) B.pre
  have hts : ∀ w ∈ tb, w.before _ s = true := fun w hw => hts0 w (List.mem_cons_of_mem _ hw)
  have hown : s.vm.findClass RX1 = some m.cls := findClass_of_methodNamed B.named
  have hlocks := B.notSynchronized
  have hl := lv_entry ([.ref (q 21), .int p1, .int p2]) (n := 3) (Nat.le_of_ble_eq_true rfl)
  rw [lg_entry_eq]
  generalize (lg_sl ([.ref (q 21), .int p1, .int p2]) ++ List.replicate (3 - (lg_sl ([.ref (q 21), .int p1, .int p2])).length) Slot.unset).toArray = ls at hl ⊢
  have hl : lv_has ls 3 [(0, .ref (q 21)), (1, .int p1), (2, .int p2)] := hl
  refine lv_aload_n hx hb dX1_isKnown_0 rfl (lv_at hl 0 rfl) ?_
  refine va_get (D := (dC, dI)) (ci := 1) (v := .ref (q 22)) (C := RX1) (T := TX1) (N := 4) hx hb hts inX1 hown hK hP 21 rfl rfl 0 (by decide) (hts _ fl_X1_14) (fun _ h9 => h9) rfl dX1_isKnown_1 ?_
  refine lv_iload_n hx hb dX1_isKnown_4 rfl (lv_at hl 1 rfl) ?_
  refine lv_iload_n hx hb dX1_isKnown_5 rfl (lv_at hl 2 rfl) ?_
  refine xc_i (va_runV (As := [.int p1, .int p2]) (rest := []) ⟨hx, hb, hml, hown, hts⟩ (c_X3_isKnown_F l dC dI cI cJ q σ p1 p2 (by assumption)) (cwV 2 hts (gV ml_X1_42 im_X3_isKnown se_X3_isKnown in_X3 co_X3_isKnown) rfl rfl rfl (by decide +kernel) ⟨Nat.le_of_ble_eq_true rfl, Nat.le_of_ble_eq_true rfl⟩) (preV hK hP (pos := 22) (ci := 3) rfl rfl) rfl rfl hl.1 rfl (lv_room (Nat.le_of_ble_eq_true rfl)) dX1_isKnown_6 ⟨Nat.zero_le _, Nat.zero_le _⟩) ?_
  exact W.zret (v := fX3_isKnown_F σ p1 p2) hx hb hr (nb_of (b_X3_isKnown_F σ p1 p2)) (fun t ht hW => ⟨_, rfl, rfl, ht⟩) (fun _ h => absurd h List.not_mem_nil) dX1_isKnown_9

def fX1_add (σ : St) (p1 : Int32) (p2 : Int32) (p3 : Int32) (p4 : Int32) : Int32 × St :=
  (if ((fX3_add_F σ p4).1) = (-1) then ((-1), (fX3_add_F σ p4).2) else ((fX3_add_F σ p4).1, (sI (sI (sI (fX3_add_F σ p4).2 15 (((fX3_add_F σ p4).1).toNatClampNeg) p1) 16 (((fX3_add_F σ p4).1).toNatClampNeg) p2) 17 (((fX3_add_F σ p4).1).toNatClampNeg) p3)))
set_option maxHeartbeats 4000000 in
set_option maxRecDepth 100000 in
theorem c_X1_add (l : Launch) (dC : Nat → ClassId) (dI : Nat → Nat → Nat) (cI cJ : ClassId) (q : Nat → Nat) (σ : St) (p1 : Int32) (p2 : Int32) (p3 : Int32) (p4 : Int32) (hd : dT 30 q) (hI : IB σ) : Met l yX1_add (.code yX1_add cX1_add 6 (some .int) :: tb) { frames := 2, cells := 0, slots := 0, locals := 41 } (Pu (dC, dI) (tyC cI cJ) (wT cI cJ q σ) [.ref (q 21), .int p1, .int p2, .int p3, .int p4]) (xw_Q (some (.int (fX1_add σ p1 p2 p3 p4).1)) (dC, dI) (wT cI cJ q (fX1_add σ p1 p2 p3 p4).2) (aT 30 q)) 0 0 (aT 30 q) := by
  refine Met.ofW (cc := cX1_add) (maxL := 6) (ret := (some .int)) (by decide) rfl ?_
  intro p e s m args below meth c s₁ B hml hv
  obtain ⟨rfl, hP, hK⟩ := hv
  have hx := B.exec
  have hb := B.bytes
  have hr := B.returns
  have hts0 := atoms_spec (ws := .code yX1_add cX1_add 6 (some .int) :: tb) B.pre
  have hts : ∀ w ∈ tb, w.before _ s = true := fun w hw => hts0 w (List.mem_cons_of_mem _ hw)
  have hown : s.vm.findClass RX1 = some m.cls := findClass_of_methodNamed B.named
  have hlocks := B.notSynchronized
  have hl := lv_entry ([.ref (q 21), .int p1, .int p2, .int p3, .int p4]) (n := 6) (Nat.le_of_ble_eq_true rfl)
  rw [lg_entry_eq]
  generalize (lg_sl ([.ref (q 21), .int p1, .int p2, .int p3, .int p4]) ++ List.replicate (6 - (lg_sl ([.ref (q 21), .int p1, .int p2, .int p3, .int p4])).length) Slot.unset).toArray = ls at hl ⊢
  have hl : lv_has ls 6 [(0, .ref (q 21)), (1, .int p1), (2, .int p2), (3, .int p3), (4, .int p4)] := hl
  obtain ⟨H, hHe⟩ : ∃ H, s.heap = H := ⟨_, rfl⟩
  rw [hHe] at hP ⊢
  obtain ⟨locs, hLe⟩ : ∃ x : List Loc, ([] : List Loc) = x := ⟨_, rfl⟩
  rw [hLe]
  have hS : va_S (aT 30 q) s.heap H locs := by rw [← hHe, ← hLe]; exact va_S.rf
  refine lv_aload_n hx hb dX1_add_0 rfl (lv_at hl 0 rfl) ?_
  refine va_get (D := (dC, dI)) (ci := 1) (v := .ref (q 22)) (C := RX1) (T := TX1) (N := 4) hx hb hts inX1 hown hK hP 21 rfl rfl 0 (by decide) (hts _ fl_X1_14) (fun _ h9 => h9) rfl dX1_add_1 ?_
  refine lv_iload hx hb dX1_add_4 (lv_at hl 4 rfl) ?_
  refine xw_c (va_runV (As := [.int p4]) (rest := []) ⟨hx, hb, hml, hown, hts⟩ (c_X3_add_F l dC dI cI cJ q σ p4 (by assumption) (by assumption)) (cwV 1 hts (gV ml_X1_46 im_X3_add se_X3_add in_X3 co_X3_add) rfl rfl rfl (by decide +kernel) ⟨Nat.le_of_ble_eq_true rfl, Nat.le_of_ble_eq_true rfl⟩) (preV hK hP (pos := 22) (ci := 3) rfl rfl) rfl rfl hl.1 rfl (lv_room (Nat.le_of_ble_eq_true rfl)) dX1_add_6 ⟨Nat.zero_le _, Nat.zero_le _⟩) hS (fun _ h => h) (fun H locs hP _ _ hS => ?_)
  have hP : va_P (dC, dI) vwCl (wT cI cJ q (fX3_add_F σ p4).2) H := hP
  refine W.eq (g2 := F0 m 9 ls [.int ((fX3_add_F σ p4).1)]) rfl ?_
  refine lv_istore (lv' := [(5, .int ((fX3_add_F σ p4).1)), (0, .ref (q 21)), (1, .int p1), (2, .int p2), (3, .int p3), (4, .int p4)]) hx hb dX1_add_9 hl (by decide) rfl (fun ls hl => ?_)
  refine lv_iload hx hb dX1_add_11 (lv_at hl 0 rfl) ?_
  refine lv_iconst (v := (-1)) hx hb dX1_add_13 (by decide) ?_
  refine lv_icmp_ne (tgt := 19) hx hb dX1_add_14 (by decide) (fun c_14 => ?_) (fun c_14 => ?_)
  · refine lv_aload_n hx hb dX1_add_19 rfl (lv_at hl 1 rfl) ?_
    refine va_get (D := (dC, dI)) (ci := 1) (v := .ref (q 23)) (C := RX1) (T := TX1) (N := 4) hx hb hts inX1 hown hK hP 21 rfl rfl 1 (by decide) (hts _ fl_X1_20) (fun _ h9 => h9) rfl dX1_add_20 ?_
    refine lv_iload hx hb dX1_add_23 (lv_at hl 0 rfl) ?_
    refine lv_iload_n hx hb dX1_add_25 rfl (lv_at hl 2 rfl) ?_
    refine va_iast hx hb hK hP (wT_D hd) hS 23 0 rfl rfl (add_in_F hI c_14) dX1_add_26 (fun H locs hP _ hS => ?_)
    have hP : va_P (dC, dI) vwCl (wT cI cJ q (sI (fX3_add_F σ p4).2 15 (((fX3_add_F σ p4).1).toNatClampNeg) p1)) H := hP
    refine lv_aload_n hx hb dX1_add_27 rfl (lv_at hl 1 rfl) ?_
    refine va_get (D := (dC, dI)) (ci := 1) (v := .ref (q 24)) (C := RX1) (T := TX1) (N := 4) hx hb hts inX1 hown hK hP 21 rfl rfl 2 (by decide) (hts _ fl_X1_24) (fun _ h9 => h9) rfl dX1_add_28 ?_
    refine lv_iload hx hb dX1_add_31 (lv_at hl 0 rfl) ?_
    refine lv_iload_n hx hb dX1_add_33 rfl (lv_at hl 3 rfl) ?_
    refine va_iast hx hb hK hP (wT_D hd) hS 24 0 rfl rfl (add_in_F hI c_14) dX1_add_34 (fun H locs hP _ hS => ?_)
    have hP : va_P (dC, dI) vwCl (wT cI cJ q (sI (sI (fX3_add_F σ p4).2 15 (((fX3_add_F σ p4).1).toNatClampNeg) p1) 16 (((fX3_add_F σ p4).1).toNatClampNeg) p2)) H := hP
    refine lv_aload_n hx hb dX1_add_35 rfl (lv_at hl 1 rfl) ?_
    refine va_get (D := (dC, dI)) (ci := 1) (v := .ref (q 25)) (C := RX1) (T := TX1) (N := 4) hx hb hts inX1 hown hK hP 21 rfl rfl 3 (by decide) (hts _ fl_X1_27) (fun _ h9 => h9) rfl dX1_add_36 ?_
    refine lv_iload hx hb dX1_add_39 (lv_at hl 0 rfl) ?_
    refine lv_iload_n hx hb dX1_add_41 rfl (lv_at hl 4 rfl) ?_
    refine va_iast hx hb hK hP (wT_D hd) hS 25 0 rfl rfl (add_in_F hI c_14) dX1_add_42 (fun H locs hP _ hS => ?_)
    have hP : va_P (dC, dI) vwCl (wT cI cJ q (sI (sI (sI (fX3_add_F σ p4).2 15 (((fX3_add_F σ p4).1).toNatClampNeg) p1) 16 (((fX3_add_F σ p4).1).toNatClampNeg) p2) 17 (((fX3_add_F σ p4).1).toNatClampNeg) p3)) H := hP
    refine lv_iload hx hb dX1_add_43 (lv_at hl 0 rfl) ?_
    have hF : fX1_add σ p1 p2 p3 p4 = ((fX3_add_F σ p4).1, (sI (sI (sI (fX3_add_F σ p4).2 15 (((fX3_add_F σ p4).1).toNatClampNeg) p1) 16 (((fX3_add_F σ p4).1).toNatClampNeg) p2) 17 (((fX3_add_F σ p4).1).toNatClampNeg) p3)) := by rw [fX1_add, if_neg c_14]
    have hP9 : va_P (dC, dI) vwCl (wT cI cJ q (fX1_add σ p1 p2 p3 p4).2) H := by rw [hF]; exact hP
    exact W.iret (v := (fX3_add_F σ p4).1) hx hb hr (fun t ht hW => ⟨(by rw [hF]), by rw [ht]; exact hP9, hS.F ht⟩) hS.2.2 dX1_add_45
  · refine lv_iconst (v := (-1)) hx hb dX1_add_17 (by decide) ?_
    have hF : fX1_add σ p1 p2 p3 p4 = ((-1), (fX3_add_F σ p4).2) := by rw [fX1_add, if_pos c_14]
    have hP9 : va_P (dC, dI) vwCl (wT cI cJ q (fX1_add σ p1 p2 p3 p4).2) H := by rw [hF]; exact hP
    exact W.iret (v := (-1)) hx hb hr (fun t ht hW => ⟨(by rw [hF]), by rw [ht]; exact hP9, hS.F ht⟩) hS.2.2 dX1_add_18

set_option maxHeartbeats 4000000 in
set_option maxRecDepth 100000 in
theorem c_X1_codeOf (l : Launch) (dC : Nat → ClassId) (dI : Nat → Nat → Nat) (cI cJ : ClassId) (q : Nat → Nat) (σ : St) (p1 : Int32) (hR : vp_in p1 200) : Met l yX1_codeOf (.code yX1_codeOf cX1_codeOf 2 (some .int) :: tb) { frames := 0, cells := 0, slots := 0, locals := 0 } (Pu (dC, dI) (tyC cI cJ) (wT cI cJ q σ) [.ref (q 21), .int p1]) (vp_Si (fun r => r = σ.1 15 p1.toNatClampNeg)) 0 0 (fun _ => False) := by
  refine Met.ofW (cc := cX1_codeOf) (maxL := 2) (ret := (some .int)) (by decide) rfl ?_
  intro p e s m args below meth c s₁ B hml hv
  obtain ⟨rfl, hP, hK⟩ := hv
  have hx := B.exec
  have hb := B.bytes
  have hr := B.returns
  have hts0 := atoms_spec (ws := .code yX1_codeOf cX1_codeOf 2 (some .int) :: tb) B.pre
  have hts : ∀ w ∈ tb, w.before _ s = true := fun w hw => hts0 w (List.mem_cons_of_mem _ hw)
  have hown : s.vm.findClass RX1 = some m.cls := findClass_of_methodNamed B.named
  have hlocks := B.notSynchronized
  have hl := lv_entry ([.ref (q 21), .int p1]) (n := 2) (Nat.le_of_ble_eq_true rfl)
  rw [lg_entry_eq]
  generalize (lg_sl ([.ref (q 21), .int p1]) ++ List.replicate (2 - (lg_sl ([.ref (q 21), .int p1])).length) Slot.unset).toArray = ls at hl ⊢
  have hl : lv_has ls 2 [(0, .ref (q 21)), (1, .int p1)] := hl
  refine lv_aload_n hx hb dX1_codeOf_0 rfl (lv_at hl 0 rfl) ?_
  refine va_get (D := (dC, dI)) (ci := 1) (v := .ref (q 23)) (C := RX1) (T := TX1) (N := 4) hx hb hts inX1 hown hK hP 21 rfl rfl 1 (by decide) (hts _ fl_X1_20) (fun _ h9 => h9) rfl dX1_codeOf_1 ?_
  refine lv_iload_n hx hb dX1_codeOf_4 rfl (lv_at hl 1 rfl) ?_
  refine va_iald hx hb hK hP 23 0 rfl rfl (by assumption) dX1_codeOf_5 ?_
  exact W.iret (v := σ.1 15 p1.toNatClampNeg) hx hb hr (fun t ht hW => ⟨_, rfl, rfl, ht⟩) (fun _ h => absurd h List.not_mem_nil) dX1_codeOf_6

set_option maxHeartbeats 4000000 in
set_option maxRecDepth 100000 in
theorem c_X1_dayOf (l : Launch) (dC : Nat → ClassId) (dI : Nat → Nat → Nat) (cI cJ : ClassId) (q : Nat → Nat) (σ : St) (p1 : Int32) (hR : vp_in p1 200) : Met l yX1_dayOf (.code yX1_dayOf cX1_dayOf 2 (some .int) :: tb) { frames := 0, cells := 0, slots := 0, locals := 0 } (Pu (dC, dI) (tyC cI cJ) (wT cI cJ q σ) [.ref (q 21), .int p1]) (vp_Si (fun r => r = σ.1 16 p1.toNatClampNeg)) 0 0 (fun _ => False) := by
  refine Met.ofW (cc := cX1_dayOf) (maxL := 2) (ret := (some .int)) (by decide) rfl ?_
  intro p e s m args below meth c s₁ B hml hv
  obtain ⟨rfl, hP, hK⟩ := hv
  have hx := B.exec
  have hb := B.bytes
  have hr := B.returns
  have hts0 := atoms_spec (ws := .code yX1_dayOf cX1_dayOf 2 (some .int) :: tb) B.pre
  have hts : ∀ w ∈ tb, w.before _ s = true := fun w hw => hts0 w (List.mem_cons_of_mem _ hw)
  have hown : s.vm.findClass RX1 = some m.cls := findClass_of_methodNamed B.named
  have hlocks := B.notSynchronized
  have hl := lv_entry ([.ref (q 21), .int p1]) (n := 2) (Nat.le_of_ble_eq_true rfl)
  rw [lg_entry_eq]
  generalize (lg_sl ([.ref (q 21), .int p1]) ++ List.replicate (2 - (lg_sl ([.ref (q 21), .int p1])).length) Slot.unset).toArray = ls at hl ⊢
  have hl : lv_has ls 2 [(0, .ref (q 21)), (1, .int p1)] := hl
  refine lv_aload_n hx hb dX1_dayOf_0 rfl (lv_at hl 0 rfl) ?_
  refine va_get (D := (dC, dI)) (ci := 1) (v := .ref (q 24)) (C := RX1) (T := TX1) (N := 4) hx hb hts inX1 hown hK hP 21 rfl rfl 2 (by decide) (hts _ fl_X1_24) (fun _ h9 => h9) rfl dX1_dayOf_1 ?_
  refine lv_iload_n hx hb dX1_dayOf_4 rfl (lv_at hl 1 rfl) ?_
  refine va_iald hx hb hK hP 24 0 rfl rfl (by assumption) dX1_dayOf_5 ?_
  exact W.iret (v := σ.1 16 p1.toNatClampNeg) hx hb hr (fun t ht hW => ⟨_, rfl, rfl, ht⟩) (fun _ h => absurd h List.not_mem_nil) dX1_dayOf_6

set_option maxHeartbeats 4000000 in
set_option maxRecDepth 100000 in
theorem c_X1_amountOf (l : Launch) (dC : Nat → ClassId) (dI : Nat → Nat → Nat) (cI cJ : ClassId) (q : Nat → Nat) (σ : St) (p1 : Int32) (hR : vp_in p1 200) : Met l yX1_amountOf (.code yX1_amountOf cX1_amountOf 2 (some .int) :: tb) { frames := 0, cells := 0, slots := 0, locals := 0 } (Pu (dC, dI) (tyC cI cJ) (wT cI cJ q σ) [.ref (q 21), .int p1]) (vp_Si (fun r => r = σ.1 17 p1.toNatClampNeg)) 0 0 (fun _ => False) := by
  refine Met.ofW (cc := cX1_amountOf) (maxL := 2) (ret := (some .int)) (by decide) rfl ?_
  intro p e s m args below meth c s₁ B hml hv
  obtain ⟨rfl, hP, hK⟩ := hv
  have hx := B.exec
  have hb := B.bytes
  have hr := B.returns
  have hts0 := atoms_spec (ws := .code yX1_amountOf cX1_amountOf 2 (some .int) :: tb) B.pre
  have hts : ∀ w ∈ tb, w.before _ s = true := fun w hw => hts0 w (List.mem_cons_of_mem _ hw)
  have hown : s.vm.findClass RX1 = some m.cls := findClass_of_methodNamed B.named
  have hlocks := B.notSynchronized
  have hl := lv_entry ([.ref (q 21), .int p1]) (n := 2) (Nat.le_of_ble_eq_true rfl)
  rw [lg_entry_eq]
  generalize (lg_sl ([.ref (q 21), .int p1]) ++ List.replicate (2 - (lg_sl ([.ref (q 21), .int p1])).length) Slot.unset).toArray = ls at hl ⊢
  have hl : lv_has ls 2 [(0, .ref (q 21)), (1, .int p1)] := hl
  refine lv_aload_n hx hb dX1_amountOf_0 rfl (lv_at hl 0 rfl) ?_
  refine va_get (D := (dC, dI)) (ci := 1) (v := .ref (q 25)) (C := RX1) (T := TX1) (N := 4) hx hb hts inX1 hown hK hP 21 rfl rfl 3 (by decide) (hts _ fl_X1_27) (fun _ h9 => h9) rfl dX1_amountOf_1 ?_
  refine lv_iload_n hx hb dX1_amountOf_4 rfl (lv_at hl 1 rfl) ?_
  refine va_iald hx hb hK hP 25 0 rfl rfl (by assumption) dX1_amountOf_5 ?_
  exact W.iret (v := σ.1 17 p1.toNatClampNeg) hx hb hr (fun t ht hW => ⟨_, rfl, rfl, ht⟩) (fun _ h => absurd h List.not_mem_nil) dX1_amountOf_6
