set_option maxHeartbeats 4000000 in
set_option maxRecDepth 100000 in
theorem c_X5_size (l : Launch) (dC : Nat → ClassId) (dI : Nat → Nat → Nat) (cI cJ : ClassId) (q : Nat → Nat) (σ : St) : Met l yX5_size (.code yX5_size cX5_size 1 (some .int) :: tb) { frames := 0, cells := 0, slots := 0, locals := 0 } (Pu (dC, dI) (tyC cI cJ) (wT cI cJ q σ) [.ref (q 3)]) (vp_Si (fun r => r = σ.2.1 1)) 0 0 (fun _ => False) := by
  refine Met.ofW (cc := cX5_size) (maxL := 1) (ret := (some .int)) (by decide) rfl ?_
  intro p e s m args below meth c s₁ B hml hv
  obtain ⟨rfl, hP, hK⟩ := hv
  have hx := B.exec
  have hb := B.bytes
  have hr := B.returns
  have hts0 := atoms_spec (ws := .code yX5_size cX5_size 1 (some .int) :: tb) B.pre
  have hts : ∀ w ∈ tb, w.before _ s = true := fun w hw => hts0 w (List.mem_cons_of_mem _ hw)
  have hown : s.vm.findClass RX5 = some m.cls := findClass_of_methodNamed B.named
  have hlocks := B.notSynchronized
  have hl := lv_entry ([.ref (q 3)]) (n := 1) (Nat.le_of_ble_eq_true rfl)
  rw [lg_entry_eq]
  generalize (lg_sl ([.ref (q 3)]) ++ List.replicate (1 - (lg_sl ([.ref (q 3)])).length) Slot.unset).toArray = ls at hl ⊢
  have hl : lv_has ls 1 [(0, .ref (q 3))] := hl
  refine lv_aload_n hx hb dX5_size_0 rfl (lv_at hl 0 rfl) ?_
  refine va_get (D := (dC, dI)) (ci := 5) (v := .int (σ.2.1 1)) (C := RX5) (T := TX5) (N := 10) hx hb hts inX5 hown hK hP 3 rfl rfl 9 (by decide) (hts _ fl_X5_39) (fun _ h9 => h9) rfl dX5_size_1 ?_
  exact W.iret (v := σ.2.1 1) hx hb hr (fun t ht hW => ⟨_, rfl, rfl, ht⟩) (fun _ h => absurd h List.not_mem_nil) dX5_size_4

set_option maxHeartbeats 4000000 in
set_option maxRecDepth 100000 in
theorem c_X5_room (l : Launch) (dC : Nat → ClassId) (dI : Nat → Nat → Nat) (cI cJ : ClassId) (q : Nat → Nat) (σ : St) : Met l yX5_room (.code yX5_room cX5_room 1 (some .int) :: tb) { frames := 0, cells := 0, slots := 0, locals := 0 } (Pu (dC, dI) (tyC cI cJ) (wT cI cJ q σ) [.ref (q 3)]) (vp_Si (fun r => r = 40 - (σ.2.1 1))) 0 0 (fun _ => False) := by
  refine Met.ofW (cc := cX5_room) (maxL := 1) (ret := (some .int)) (by decide) rfl ?_
  intro p e s m args below meth c s₁ B hml hv
  obtain ⟨rfl, hP, hK⟩ := hv
  have hx := B.exec
  have hb := B.bytes
  have hr := B.returns
  have hts0 := atoms_spec (ws := .code yX5_room cX5_room 1 (some .int) :: tb) B.pre
  have hts : ∀ w ∈ tb, w.before _ s = true := fun w hw => hts0 w (List.mem_cons_of_mem _ hw)
  have hown : s.vm.findClass RX5 = some m.cls := findClass_of_methodNamed B.named
  have hlocks := B.notSynchronized
  have hl := lv_entry ([.ref (q 3)]) (n := 1) (Nat.le_of_ble_eq_true rfl)
  rw [lg_entry_eq]
  generalize (lg_sl ([.ref (q 3)]) ++ List.replicate (1 - (lg_sl ([.ref (q 3)])).length) Slot.unset).toArray = ls at hl ⊢
  have hl : lv_has ls 1 [(0, .ref (q 3))] := hl
  refine lv_bipush (v := 40) hx hb dX5_room_0 (by decide) ?_
  refine lv_aload_n hx hb dX5_room_2 rfl (lv_at hl 0 rfl) ?_
  refine va_get (D := (dC, dI)) (ci := 5) (v := .int (σ.2.1 1)) (C := RX5) (T := TX5) (N := 10) hx hb hts inX5 hown hK hP 3 rfl rfl 9 (by decide) (hts _ fl_X5_39) (fun _ h9 => h9) rfl dX5_room_3 ?_
  refine lv_isub hx hb dX5_room_6 ?_
  exact W.iret (v := 40 - (σ.2.1 1)) hx hb hr (fun t ht hW => ⟨_, rfl, rfl, ht⟩) (fun _ h => absurd h List.not_mem_nil) dX5_room_7

def fX5_has (σ : St) (p1 : Int32) : Int32 :=
  (if p1 < 0 then 0 else (if (σ.2.1 1) ≤ p1 then 0 else 1))
set_option maxHeartbeats 4000000 in
set_option maxRecDepth 100000 in
theorem c_X5_has (l : Launch) (dC : Nat → ClassId) (dI : Nat → Nat → Nat) (cI cJ : ClassId) (q : Nat → Nat) (σ : St) (p1 : Int32) : Met l yX5_has (.code yX5_has cX5_has 2 (some .boolean) :: tb) { frames := 0, cells := 0, slots := 0, locals := 0 } (Pu (dC, dI) (tyC cI cJ) (wT cI cJ q σ) [.ref (q 3), .int p1]) (vp_Si (fun r => r = fX5_has σ p1)) 0 0 (fun _ => False) := by
  refine Met.ofW (cc := cX5_has) (maxL := 2) (ret := (some .boolean)) (by decide) rfl ?_
  intro p e s m args below meth c s₁ B hml hv
  obtain ⟨rfl, hP, hK⟩ := hv
  have hx := B.exec
  have hb := B.bytes
  have hr := B.returns
  have hts0 := atoms_spec (ws := .code yX5_has cX5_has 2 (some .boolean) :: tb) B.pre
  have hts : ∀ w ∈ tb, w.before _ s = true := fun w hw => hts0 w (List.mem_cons_of_mem _ hw)
  have hown : s.vm.findClass RX5 = some m.cls := findClass_of_methodNamed B.named
  have hlocks := B.notSynchronized
  have hl := lv_entry ([.ref (q 3), .int p1]) (n := 2) (Nat.le_of_ble_eq_true rfl)
  rw [lg_entry_eq]
  generalize (lg_sl ([.ref (q 3), .int p1]) ++ List.replicate (2 - (lg_sl ([.ref (q 3), .int p1])).length) Slot.unset).toArray = ls at hl ⊢
  have hl : lv_has ls 2 [(0, .ref (q 3)), (1, .int p1)] := hl
  refine lv_iload_n hx hb dX5_has_0 rfl (lv_at hl 1 rfl) ?_
  refine lv_if_lt (tgt := 16) hx hb dX5_has_1 (by decide) (fun c_1 => ?_) (fun c_1 => ?_)
  · refine lv_iconst (v := 0) hx hb dX5_has_16 (by decide) ?_
    exact W.zret (v := 0) hx hb hr narrow_b0 (fun t ht hW => ⟨_, rfl, (by rw [fX5_has, if_pos c_1]), ht⟩) (fun _ h => absurd h List.not_mem_nil) dX5_has_17
  · refine lv_iload_n hx hb dX5_has_4 rfl (lv_at hl 1 rfl) ?_
    refine lv_aload_n hx hb dX5_has_5 rfl (lv_at hl 0 rfl) ?_
    refine va_get (D := (dC, dI)) (ci := 5) (v := .int (σ.2.1 1)) (C := RX5) (T := TX5) (N := 10) hx hb hts inX5 hown hK hP 3 rfl rfl 9 (by decide) (hts _ fl_X5_39) (fun _ h9 => h9) rfl dX5_has_6 ?_
    refine lv_icmp_ge (tgt := 16) hx hb dX5_has_9 (by decide) (fun c_9 => ?_) (fun c_9 => ?_)
    · refine lv_iconst (v := 0) hx hb dX5_has_16 (by decide) ?_
      exact W.zret (v := 0) hx hb hr narrow_b0 (fun t ht hW => ⟨_, rfl, (by rw [fX5_has, if_neg c_1, if_pos c_9]), ht⟩) (fun _ h => absurd h List.not_mem_nil) dX5_has_17
    · refine lv_iconst (v := 1) hx hb dX5_has_12 (by decide) ?_
      refine lv_goto (tgt := 17) hx hb dX5_has_13 (by decide) ?_
      exact W.zret (v := 1) hx hb hr narrow_b1 (fun t ht hW => ⟨_, rfl, (by rw [fX5_has, if_neg c_1, if_neg c_9]), ht⟩) (fun _ h => absurd h List.not_mem_nil) dX5_has_17

theorem has_in {σ : St} {x : Int32} (hI : IB σ) (c : ¬ fX5_has σ x = 0) : vp_in x (σ.2.1 1).toNatClampNeg := by
  unfold fX5_has at c
  split at c
  · exact absurd rfl c
  · split at c
    · exact absurd rfl c
    · exact in_size hI.1 (by decide) (by assumption) (by assumption)
theorem has_in40 {σ : St} {x : Int32} (hI : IB σ) (c : ¬ fX5_has σ x = 0) : vp_in x 40 := vp_in_mono (has_in hI c) hI.1.2

def fX5_add (σ : St) (p1 : Int32) (p2 : Int32) (p3 : Int32) : Int32 × St :=
  (if 1 ≤ (40 - (σ.2.1 1)) then (((σ.2.1 1) + 1) - 1, (sV (sI (sI (sI (sI (sI (sI (sI (sI (sI σ 0 ((σ.2.1 1).toNatClampNeg) p1) 1 ((σ.2.1 1).toNatClampNeg) p2) 2 ((σ.2.1 1).toNatClampNeg) p3) 3 ((σ.2.1 1).toNatClampNeg) 2001) 4 ((σ.2.1 1).toNatClampNeg) 2001) 5 ((σ.2.1 1).toNatClampNeg) 0) 6 ((σ.2.1 1).toNatClampNeg) (-1)) 7 ((σ.2.1 1).toNatClampNeg) 0) 8 ((σ.2.1 1).toNatClampNeg) 1) 1 ((σ.2.1 1) + 1))) else ((-1), σ))
set_option maxHeartbeats 4000000 in
set_option maxRecDepth 100000 in
theorem c_X5_add (l : Launch) (dC : Nat → ClassId) (dI : Nat → Nat → Nat) (cI cJ : ClassId) (q : Nat → Nat) (σ : St) (p1 : Int32) (p2 : Int32) (p3 : Int32) (hd : dT 30 q) (hI : IB σ) : Met l yX5_add (.code yX5_add cX5_add 4 (some .int) :: tb) { frames := 1, cells := 0, slots := 0, locals := 20 } (Pu (dC, dI) (tyC cI cJ) (wT cI cJ q σ) [.ref (q 3), .int p1, .int p2, .int p3]) (xw_Q (some (.int (fX5_add σ p1 p2 p3).1)) (dC, dI) (wT cI cJ q (fX5_add σ p1 p2 p3).2) (aT 30 q)) 0 0 (aT 30 q) := by
  refine Met.ofW (cc := cX5_add) (maxL := 4) (ret := (some .int)) (by decide) rfl ?_
  intro p e s m args below meth c s₁ B hml hv
  obtain ⟨rfl, hP, hK⟩ := hv
  have hx := B.exec
  have hb := B.bytes
  have hr := B.returns
  have hts0 := atoms_spec (ws := .code yX5_add cX5_add 4 (some .int) :: tb) B.pre
  have hts : ∀ w ∈ tb, w.before _ s = true := fun w hw => hts0 w (List.mem_cons_of_mem _ hw)
  have hown : s.vm.findClass RX5 = some m.cls := findClass_of_methodNamed B.named
  have hlocks := B.notSynchronized
  have hl := lv_entry ([.ref (q 3), .int p1, .int p2, .int p3]) (n := 4) (Nat.le_of_ble_eq_true rfl)
  rw [lg_entry_eq]
  generalize (lg_sl ([.ref (q 3), .int p1, .int p2, .int p3]) ++ List.replicate (4 - (lg_sl ([.ref (q 3), .int p1, .int p2, .int p3])).length) Slot.unset).toArray = ls at hl ⊢
  have hl : lv_has ls 4 [(0, .ref (q 3)), (1, .int p1), (2, .int p2), (3, .int p3)] := hl
  obtain ⟨H, hHe⟩ : ∃ H, s.heap = H := ⟨_, rfl⟩
  rw [hHe] at hP ⊢
  obtain ⟨locs, hLe⟩ : ∃ x : List Loc, ([] : List Loc) = x := ⟨_, rfl⟩
  rw [hLe]
  have hS : va_S (aT 30 q) s.heap H locs := by rw [← hHe, ← hLe]; exact va_S.rf
  refine lv_aload_n hx hb dX5_add_0 rfl (lv_at hl 0 rfl) ?_
  refine xc_i (va_runV (As := []) (rest := []) ⟨hx, hb, hml, hown, hts⟩ (c_X5_room l dC dI cI cJ q σ ) (cwV 0 hts (gV ml_X5_43 im_X5_room se_X5_room in_X5 co_X5_room) rfl rfl rfl (by decide +kernel) ⟨Nat.le_of_ble_eq_true rfl, Nat.le_of_ble_eq_true rfl⟩) (preV hK hP (pos := 3) (ci := 5) rfl rfl) rfl rfl hl.1 rfl (lv_room (Nat.le_of_ble_eq_true rfl)) dX5_add_1 ⟨Nat.zero_le _, Nat.zero_le _⟩) ?_
  refine lv_iconst (v := 1) hx hb dX5_add_4 (by decide) ?_
  refine lv_icmp_ge (tgt := 10) hx hb dX5_add_5 (by decide) (fun c_5 => ?_) (fun c_5 => ?_)
  · refine lv_aload_n hx hb dX5_add_10 rfl (lv_at hl 0 rfl) ?_
    refine va_get (D := (dC, dI)) (ci := 5) (v := .ref (q 4)) (C := RX5) (T := TX5) (N := 10) hx hb hts inX5 hown hK hP 3 rfl rfl 0 (by decide) (hts _ fl_X5_9) (fun _ h9 => h9) rfl dX5_add_11 ?_
    refine lv_aload_n hx hb dX5_add_14 rfl (lv_at hl 0 rfl) ?_
    refine va_get (D := (dC, dI)) (ci := 5) (v := .int (σ.2.1 1)) (C := RX5) (T := TX5) (N := 10) hx hb hts inX5 hown hK hP 3 rfl rfl 9 (by decide) (hts _ fl_X5_39) (fun _ h9 => h9) rfl dX5_add_15 ?_
    refine lv_iload_n hx hb dX5_add_18 rfl (lv_at hl 1 rfl) ?_
    refine va_iast hx hb hK hP (wT_D hd) hS 4 0 rfl rfl (room_in hI.1 c_5) dX5_add_19 (fun H locs hP _ hS => ?_)
    have hP : va_P (dC, dI) vwCl (wT cI cJ q (sI σ 0 ((σ.2.1 1).toNatClampNeg) p1)) H := hP
    refine lv_aload_n hx hb dX5_add_20 rfl (lv_at hl 0 rfl) ?_
    refine va_get (D := (dC, dI)) (ci := 5) (v := .ref (q 5)) (C := RX5) (T := TX5) (N := 10) hx hb hts inX5 hown hK hP 3 rfl rfl 1 (by decide) (hts _ fl_X5_15) (fun _ h9 => h9) rfl dX5_add_21 ?_
    refine lv_aload_n hx hb dX5_add_24 rfl (lv_at hl 0 rfl) ?_
    refine va_get (D := (dC, dI)) (ci := 5) (v := .int (σ.2.1 1)) (C := RX5) (T := TX5) (N := 10) hx hb hts inX5 hown hK hP 3 rfl rfl 9 (by decide) (hts _ fl_X5_39) (fun _ h9 => h9) rfl dX5_add_25 ?_
    refine lv_iload_n hx hb dX5_add_28 rfl (lv_at hl 2 rfl) ?_
    refine va_iast hx hb hK hP (wT_D hd) hS 5 0 rfl rfl (room_in hI.1 c_5) dX5_add_29 (fun H locs hP _ hS => ?_)
    have hP : va_P (dC, dI) vwCl (wT cI cJ q (sI (sI σ 0 ((σ.2.1 1).toNatClampNeg) p1) 1 ((σ.2.1 1).toNatClampNeg) p2)) H := hP
    refine lv_aload_n hx hb dX5_add_30 rfl (lv_at hl 0 rfl) ?_
    refine va_get (D := (dC, dI)) (ci := 5) (v := .ref (q 6)) (C := RX5) (T := TX5) (N := 10) hx hb hts inX5 hown hK hP 3 rfl rfl 2 (by decide) (hts _ fl_X5_18) (fun _ h9 => h9) rfl dX5_add_31 ?_
    refine lv_aload_n hx hb dX5_add_34 rfl (lv_at hl 0 rfl) ?_
    refine va_get (D := (dC, dI)) (ci := 5) (v := .int (σ.2.1 1)) (C := RX5) (T := TX5) (N := 10) hx hb hts inX5 hown hK hP 3 rfl rfl 9 (by decide) (hts _ fl_X5_39) (fun _ h9 => h9) rfl dX5_add_35 ?_
    refine lv_iload_n hx hb dX5_add_38 rfl (lv_at hl 3 rfl) ?_
    refine va_iast hx hb hK hP (wT_D hd) hS 6 0 rfl rfl (room_in hI.1 c_5) dX5_add_39 (fun H locs hP _ hS => ?_)
    have hP : va_P (dC, dI) vwCl (wT cI cJ q (sI (sI (sI σ 0 ((σ.2.1 1).toNatClampNeg) p1) 1 ((σ.2.1 1).toNatClampNeg) p2) 2 ((σ.2.1 1).toNatClampNeg) p3)) H := hP
    refine lv_aload_n hx hb dX5_add_40 rfl (lv_at hl 0 rfl) ?_
    refine va_get (D := (dC, dI)) (ci := 5) (v := .ref (q 7)) (C := RX5) (T := TX5) (N := 10) hx hb hts inX5 hown hK hP 3 rfl rfl 3 (by decide) (hts _ fl_X5_21) (fun _ h9 => h9) rfl dX5_add_41 ?_
    refine lv_aload_n hx hb dX5_add_44 rfl (lv_at hl 0 rfl) ?_
    refine va_get (D := (dC, dI)) (ci := 5) (v := .int (σ.2.1 1)) (C := RX5) (T := TX5) (N := 10) hx hb hts inX5 hown hK hP 3 rfl rfl 9 (by decide) (hts _ fl_X5_39) (fun _ h9 => h9) rfl dX5_add_45 ?_
    refine lv_sipush (v := 2001) hx hb dX5_add_48 (by decide) ?_
    refine va_iast hx hb hK hP (wT_D hd) hS 7 0 rfl rfl (room_in hI.1 c_5) dX5_add_51 (fun H locs hP _ hS => ?_)
    have hP : va_P (dC, dI) vwCl (wT cI cJ q (sI (sI (sI (sI σ 0 ((σ.2.1 1).toNatClampNeg) p1) 1 ((σ.2.1 1).toNatClampNeg) p2) 2 ((σ.2.1 1).toNatClampNeg) p3) 3 ((σ.2.1 1).toNatClampNeg) 2001)) H := hP
    refine lv_aload_n hx hb dX5_add_52 rfl (lv_at hl 0 rfl) ?_
    refine va_get (D := (dC, dI)) (ci := 5) (v := .ref (q 8)) (C := RX5) (T := TX5) (N := 10) hx hb hts inX5 hown hK hP 3 rfl rfl 4 (by decide) (hts _ fl_X5_24) (fun _ h9 => h9) rfl dX5_add_53 ?_
    refine lv_aload_n hx hb dX5_add_56 rfl (lv_at hl 0 rfl) ?_
    refine va_get (D := (dC, dI)) (ci := 5) (v := .int (σ.2.1 1)) (C := RX5) (T := TX5) (N := 10) hx hb hts inX5 hown hK hP 3 rfl rfl 9 (by decide) (hts _ fl_X5_39) (fun _ h9 => h9) rfl dX5_add_57 ?_
    refine lv_sipush (v := 2001) hx hb dX5_add_60 (by decide) ?_
    refine va_iast hx hb hK hP (wT_D hd) hS 8 0 rfl rfl (room_in hI.1 c_5) dX5_add_63 (fun H locs hP _ hS => ?_)
    have hP : va_P (dC, dI) vwCl (wT cI cJ q (sI (sI (sI (sI (sI σ 0 ((σ.2.1 1).toNatClampNeg) p1) 1 ((σ.2.1 1).toNatClampNeg) p2) 2 ((σ.2.1 1).toNatClampNeg) p3) 3 ((σ.2.1 1).toNatClampNeg) 2001) 4 ((σ.2.1 1).toNatClampNeg) 2001)) H := hP
    refine lv_aload_n hx hb dX5_add_64 rfl (lv_at hl 0 rfl) ?_
    refine va_get (D := (dC, dI)) (ci := 5) (v := .ref (q 9)) (C := RX5) (T := TX5) (N := 10) hx hb hts inX5 hown hK hP 3 rfl rfl 5 (by decide) (hts _ fl_X5_27) (fun _ h9 => h9) rfl dX5_add_65 ?_
    refine lv_aload_n hx hb dX5_add_68 rfl (lv_at hl 0 rfl) ?_
    refine va_get (D := (dC, dI)) (ci := 5) (v := .int (σ.2.1 1)) (C := RX5) (T := TX5) (N := 10) hx hb hts inX5 hown hK hP 3 rfl rfl 9 (by decide) (hts _ fl_X5_39) (fun _ h9 => h9) rfl dX5_add_69 ?_
    refine lv_iconst (v := 0) hx hb dX5_add_72 (by decide) ?_
    refine va_iast hx hb hK hP (wT_D hd) hS 9 0 rfl rfl (room_in hI.1 c_5) dX5_add_73 (fun H locs hP _ hS => ?_)
    have hP : va_P (dC, dI) vwCl (wT cI cJ q (sI (sI (sI (sI (sI (sI σ 0 ((σ.2.1 1).toNatClampNeg) p1) 1 ((σ.2.1 1).toNatClampNeg) p2) 2 ((σ.2.1 1).toNatClampNeg) p3) 3 ((σ.2.1 1).toNatClampNeg) 2001) 4 ((σ.2.1 1).toNatClampNeg) 2001) 5 ((σ.2.1 1).toNatClampNeg) 0)) H := hP
    refine lv_aload_n hx hb dX5_add_74 rfl (lv_at hl 0 rfl) ?_
    refine va_get (D := (dC, dI)) (ci := 5) (v := .ref (q 10)) (C := RX5) (T := TX5) (N := 10) hx hb hts inX5 hown hK hP 3 rfl rfl 6 (by decide) (hts _ fl_X5_30) (fun _ h9 => h9) rfl dX5_add_75 ?_
    refine lv_aload_n hx hb dX5_add_78 rfl (lv_at hl 0 rfl) ?_
    refine va_get (D := (dC, dI)) (ci := 5) (v := .int (σ.2.1 1)) (C := RX5) (T := TX5) (N := 10) hx hb hts inX5 hown hK hP 3 rfl rfl 9 (by decide) (hts _ fl_X5_39) (fun _ h9 => h9) rfl dX5_add_79 ?_
    refine lv_iconst (v := (-1)) hx hb dX5_add_82 (by decide) ?_
    refine va_iast hx hb hK hP (wT_D hd) hS 10 0 rfl rfl (room_in hI.1 c_5) dX5_add_83 (fun H locs hP _ hS => ?_)
    have hP : va_P (dC, dI) vwCl (wT cI cJ q (sI (sI (sI (sI (sI (sI (sI σ 0 ((σ.2.1 1).toNatClampNeg) p1) 1 ((σ.2.1 1).toNatClampNeg) p2) 2 ((σ.2.1 1).toNatClampNeg) p3) 3 ((σ.2.1 1).toNatClampNeg) 2001) 4 ((σ.2.1 1).toNatClampNeg) 2001) 5 ((σ.2.1 1).toNatClampNeg) 0) 6 ((σ.2.1 1).toNatClampNeg) (-1))) H := hP
    refine lv_aload_n hx hb dX5_add_84 rfl (lv_at hl 0 rfl) ?_
    refine va_get (D := (dC, dI)) (ci := 5) (v := .ref (q 11)) (C := RX5) (T := TX5) (N := 10) hx hb hts inX5 hown hK hP 3 rfl rfl 7 (by decide) (hts _ fl_X5_33) (fun _ h9 => h9) rfl dX5_add_85 ?_
    refine lv_aload_n hx hb dX5_add_88 rfl (lv_at hl 0 rfl) ?_
    refine va_get (D := (dC, dI)) (ci := 5) (v := .int (σ.2.1 1)) (C := RX5) (T := TX5) (N := 10) hx hb hts inX5 hown hK hP 3 rfl rfl 9 (by decide) (hts _ fl_X5_39) (fun _ h9 => h9) rfl dX5_add_89 ?_
    refine lv_iconst (v := 0) hx hb dX5_add_92 (by decide) ?_
    refine va_iast hx hb hK hP (wT_D hd) hS 11 0 rfl rfl (room_in hI.1 c_5) dX5_add_93 (fun H locs hP _ hS => ?_)
    have hP : va_P (dC, dI) vwCl (wT cI cJ q (sI (sI (sI (sI (sI (sI (sI (sI σ 0 ((σ.2.1 1).toNatClampNeg) p1) 1 ((σ.2.1 1).toNatClampNeg) p2) 2 ((σ.2.1 1).toNatClampNeg) p3) 3 ((σ.2.1 1).toNatClampNeg) 2001) 4 ((σ.2.1 1).toNatClampNeg) 2001) 5 ((σ.2.1 1).toNatClampNeg) 0) 6 ((σ.2.1 1).toNatClampNeg) (-1)) 7 ((σ.2.1 1).toNatClampNeg) 0)) H := hP
    refine lv_aload_n hx hb dX5_add_94 rfl (lv_at hl 0 rfl) ?_
    refine va_get (D := (dC, dI)) (ci := 5) (v := .ref (q 12)) (C := RX5) (T := TX5) (N := 10) hx hb hts inX5 hown hK hP 3 rfl rfl 8 (by decide) (hts _ fl_X5_36) (fun _ h9 => h9) rfl dX5_add_95 ?_
    refine lv_aload_n hx hb dX5_add_98 rfl (lv_at hl 0 rfl) ?_
    refine va_get (D := (dC, dI)) (ci := 5) (v := .int (σ.2.1 1)) (C := RX5) (T := TX5) (N := 10) hx hb hts inX5 hown hK hP 3 rfl rfl 9 (by decide) (hts _ fl_X5_39) (fun _ h9 => h9) rfl dX5_add_99 ?_
    refine lv_iconst (v := 1) hx hb dX5_add_102 (by decide) ?_
    refine va_iast hx hb hK hP (wT_D hd) hS 12 0 rfl rfl (room_in hI.1 c_5) dX5_add_103 (fun H locs hP _ hS => ?_)
    have hP : va_P (dC, dI) vwCl (wT cI cJ q (sI (sI (sI (sI (sI (sI (sI (sI (sI σ 0 ((σ.2.1 1).toNatClampNeg) p1) 1 ((σ.2.1 1).toNatClampNeg) p2) 2 ((σ.2.1 1).toNatClampNeg) p3) 3 ((σ.2.1 1).toNatClampNeg) 2001) 4 ((σ.2.1 1).toNatClampNeg) 2001) 5 ((σ.2.1 1).toNatClampNeg) 0) 6 ((σ.2.1 1).toNatClampNeg) (-1)) 7 ((σ.2.1 1).toNatClampNeg) 0) 8 ((σ.2.1 1).toNatClampNeg) 1)) H := hP
    refine lv_aload_n hx hb dX5_add_104 rfl (lv_at hl 0 rfl) ?_
    refine lv_dup hx hb dX5_add_105 rfl ?_
    refine va_get (D := (dC, dI)) (ci := 5) (v := .int (σ.2.1 1)) (C := RX5) (T := TX5) (N := 10) hx hb hts inX5 hown hK hP 3 rfl rfl 9 (by decide) (hts _ fl_X5_39) (fun _ h9 => h9) rfl dX5_add_106 ?_
    refine lv_iconst (v := 1) hx hb dX5_add_109 (by decide) ?_
    refine lv_iadd hx hb dX5_add_110 ?_
    refine va_put (D := (dC, dI)) (ci := 5) (v := .int ((σ.2.1 1) + 1)) (ty := .int) (C := RX5) (T := TX5) (N := 10) hx hb hts inX5 tyX5 tyX5_ok nmX5 hown hK hP (wT_D hd) hS 3 rfl rfl 9 (by decide) (hts _ fl_X5_39) (fun _ h9 => h9) rfl (by decide +kernel) rfl rfl (Nat.le_of_ble_eq_true rfl) dX5_add_111 (fun H locs hP _ hS => ?_)
    have hP : va_P (dC, dI) vwCl (wT cI cJ q (sV (sI (sI (sI (sI (sI (sI (sI (sI (sI σ 0 ((σ.2.1 1).toNatClampNeg) p1) 1 ((σ.2.1 1).toNatClampNeg) p2) 2 ((σ.2.1 1).toNatClampNeg) p3) 3 ((σ.2.1 1).toNatClampNeg) 2001) 4 ((σ.2.1 1).toNatClampNeg) 2001) 5 ((σ.2.1 1).toNatClampNeg) 0) 6 ((σ.2.1 1).toNatClampNeg) (-1)) 7 ((σ.2.1 1).toNatClampNeg) 0) 8 ((σ.2.1 1).toNatClampNeg) 1) 1 ((σ.2.1 1) + 1))) H := hP
    refine lv_aload_n hx hb dX5_add_114 rfl (lv_at hl 0 rfl) ?_
    refine va_get (D := (dC, dI)) (ci := 5) (v := .int ((σ.2.1 1) + 1)) (C := RX5) (T := TX5) (N := 10) hx hb hts inX5 hown hK hP 3 rfl rfl 9 (by decide) (hts _ fl_X5_39) (fun _ h9 => h9) rfl dX5_add_115 ?_
    refine lv_iconst (v := 1) hx hb dX5_add_118 (by decide) ?_
    refine lv_isub hx hb dX5_add_119 ?_
    have hF : fX5_add σ p1 p2 p3 = (((σ.2.1 1) + 1) - 1, (sV (sI (sI (sI (sI (sI (sI (sI (sI (sI σ 0 ((σ.2.1 1).toNatClampNeg) p1) 1 ((σ.2.1 1).toNatClampNeg) p2) 2 ((σ.2.1 1).toNatClampNeg) p3) 3 ((σ.2.1 1).toNatClampNeg) 2001) 4 ((σ.2.1 1).toNatClampNeg) 2001) 5 ((σ.2.1 1).toNatClampNeg) 0) 6 ((σ.2.1 1).toNatClampNeg) (-1)) 7 ((σ.2.1 1).toNatClampNeg) 0) 8 ((σ.2.1 1).toNatClampNeg) 1) 1 ((σ.2.1 1) + 1))) := by rw [fX5_add, if_pos c_5]
    have hP9 : va_P (dC, dI) vwCl (wT cI cJ q (fX5_add σ p1 p2 p3).2) H := by rw [hF]; exact hP
    exact W.iret (v := ((σ.2.1 1) + 1) - 1) hx hb hr (fun t ht hW => ⟨(by rw [hF]), by rw [ht]; exact hP9, hS.F ht⟩) hS.2.2 dX5_add_120
  · refine lv_iconst (v := (-1)) hx hb dX5_add_8 (by decide) ?_
    have hF : fX5_add σ p1 p2 p3 = ((-1), σ) := by rw [fX5_add, if_neg c_5]
    have hP9 : va_P (dC, dI) vwCl (wT cI cJ q (fX5_add σ p1 p2 p3).2) H := by rw [hF]; exact hP
    exact W.iret (v := (-1)) hx hb hr (fun t ht hW => ⟨(by rw [hF]), by rw [ht]; exact hP9, hS.F ht⟩) hS.2.2 dX5_add_9

def fX5_finish (σ : St) (p1 : Int32) (p2 : Int32) (p3 : Int32) (p4 : Int32) (p5 : Int32) : St :=
  (sI (sI (sI (sI σ 3 p1.toNatClampNeg p2) 4 p1.toNatClampNeg p3) 5 p1.toNatClampNeg p4) 6 p1.toNatClampNeg p5)
set_option maxHeartbeats 4000000 in
set_option maxRecDepth 100000 in
theorem c_X5_finish (l : Launch) (dC : Nat → ClassId) (dI : Nat → Nat → Nat) (cI cJ : ClassId) (q : Nat → Nat) (σ : St) (p1 : Int32) (p2 : Int32) (p3 : Int32) (p4 : Int32) (p5 : Int32) (hd : dT 30 q) (hT : vp_in p1 40) : Met l yX5_finish (.code yX5_finish cX5_finish 6 none :: tb) { frames := 0, cells := 0, slots := 0, locals := 0 } (Pu (dC, dI) (tyC cI cJ) (wT cI cJ q σ) [.ref (q 3), .int p1, .int p2, .int p3, .int p4, .int p5]) (xw_Q none (dC, dI) (wT cI cJ q (fX5_finish σ p1 p2 p3 p4 p5)) (aT 30 q)) 0 0 (aT 30 q) := by
  refine Met.ofW (cc := cX5_finish) (maxL := 6) (ret := none) (by decide) rfl ?_
  intro p e s m args below meth c s₁ B hml hv
  obtain ⟨rfl, hP, hK⟩ := hv
  have hx := B.exec
  have hb := B.bytes
  have hr := B.returns
  have hts0 := atoms_spec (ws := .code yX5_finish cX5_finish 6 none :: tb) B.pre
  have hts : ∀ w ∈ tb, w.before _ s = true := fun w hw => hts0 w (List.mem_cons_of_mem _ hw)
  have hown : s.vm.findClass RX5 = some m.cls := findClass_of_methodNamed B.named
  have hlocks := B.notSynchronized
  have hl := lv_entry ([.ref (q 3), .int p1, .int p2, .int p3, .int p4, .int p5]) (n := 6) (Nat.le_of_ble_eq_true rfl)
  rw [lg_entry_eq]
  generalize (lg_sl ([.ref (q 3), .int p1, .int p2, .int p3, .int p4, .int p5]) ++ List.replicate (6 - (lg_sl ([.ref (q 3), .int p1, .int p2, .int p3, .int p4, .int p5])).length) Slot.unset).toArray = ls at hl ⊢
  have hl : lv_has ls 6 [(0, .ref (q 3)), (1, .int p1), (2, .int p2), (3, .int p3), (4, .int p4), (5, .int p5)] := hl
  obtain ⟨H, hHe⟩ : ∃ H, s.heap = H := ⟨_, rfl⟩
  rw [hHe] at hP ⊢
  obtain ⟨locs, hLe⟩ : ∃ x : List Loc, ([] : List Loc) = x := ⟨_, rfl⟩
  rw [hLe]
  have hS : va_S (aT 30 q) s.heap H locs := by rw [← hHe, ← hLe]; exact va_S.rf
  refine lv_aload_n hx hb dX5_finish_0 rfl (lv_at hl 0 rfl) ?_
  refine va_get (D := (dC, dI)) (ci := 5) (v := .ref (q 7)) (C := RX5) (T := TX5) (N := 10) hx hb hts inX5 hown hK hP 3 rfl rfl 3 (by decide) (hts _ fl_X5_21) (fun _ h9 => h9) rfl dX5_finish_1 ?_
  refine lv_iload_n hx hb dX5_finish_4 rfl (lv_at hl 1 rfl) ?_
  refine lv_iload_n hx hb dX5_finish_5 rfl (lv_at hl 2 rfl) ?_
  refine va_iast hx hb hK hP (wT_D hd) hS 7 0 rfl rfl (by assumption) dX5_finish_6 (fun H locs hP _ hS => ?_)
  have hP : va_P (dC, dI) vwCl (wT cI cJ q (sI σ 3 p1.toNatClampNeg p2)) H := hP
  refine lv_aload_n hx hb dX5_finish_7 rfl (lv_at hl 0 rfl) ?_
  refine va_get (D := (dC, dI)) (ci := 5) (v := .ref (q 8)) (C := RX5) (T := TX5) (N := 10) hx hb hts inX5 hown hK hP 3 rfl rfl 4 (by decide) (hts _ fl_X5_24) (fun _ h9 => h9) rfl dX5_finish_8 ?_
  refine lv_iload_n hx hb dX5_finish_11 rfl (lv_at hl 1 rfl) ?_
  refine lv_iload_n hx hb dX5_finish_12 rfl (lv_at hl 3 rfl) ?_
  refine va_iast hx hb hK hP (wT_D hd) hS 8 0 rfl rfl (by assumption) dX5_finish_13 (fun H locs hP _ hS => ?_)
  have hP : va_P (dC, dI) vwCl (wT cI cJ q (sI (sI σ 3 p1.toNatClampNeg p2) 4 p1.toNatClampNeg p3)) H := hP
  refine lv_aload_n hx hb dX5_finish_14 rfl (lv_at hl 0 rfl) ?_
  refine va_get (D := (dC, dI)) (ci := 5) (v := .ref (q 9)) (C := RX5) (T := TX5) (N := 10) hx hb hts inX5 hown hK hP 3 rfl rfl 5 (by decide) (hts _ fl_X5_27) (fun _ h9 => h9) rfl dX5_finish_15 ?_
  refine lv_iload_n hx hb dX5_finish_18 rfl (lv_at hl 1 rfl) ?_
  refine lv_iload hx hb dX5_finish_19 (lv_at hl 4 rfl) ?_
  refine va_iast hx hb hK hP (wT_D hd) hS 9 0 rfl rfl (by assumption) dX5_finish_21 (fun H locs hP _ hS => ?_)
  have hP : va_P (dC, dI) vwCl (wT cI cJ q (sI (sI (sI σ 3 p1.toNatClampNeg p2) 4 p1.toNatClampNeg p3) 5 p1.toNatClampNeg p4)) H := hP
  refine lv_aload_n hx hb dX5_finish_22 rfl (lv_at hl 0 rfl) ?_
  refine va_get (D := (dC, dI)) (ci := 5) (v := .ref (q 10)) (C := RX5) (T := TX5) (N := 10) hx hb hts inX5 hown hK hP 3 rfl rfl 6 (by decide) (hts _ fl_X5_30) (fun _ h9 => h9) rfl dX5_finish_23 ?_
  refine lv_iload_n hx hb dX5_finish_26 rfl (lv_at hl 1 rfl) ?_
  refine lv_iload hx hb dX5_finish_27 (lv_at hl 5 rfl) ?_
  refine va_iast hx hb hK hP (wT_D hd) hS 10 0 rfl rfl (by assumption) dX5_finish_29 (fun H locs hP _ hS => ?_)
  have hP : va_P (dC, dI) vwCl (wT cI cJ q (sI (sI (sI (sI σ 3 p1.toNatClampNeg p2) 4 p1.toNatClampNeg p3) 5 p1.toNatClampNeg p4) 6 p1.toNatClampNeg p5)) H := hP
  have hF : fX5_finish σ p1 p2 p3 p4 p5 = (sI (sI (sI (sI σ 3 p1.toNatClampNeg p2) 4 p1.toNatClampNeg p3) 5 p1.toNatClampNeg p4) 6 p1.toNatClampNeg p5) := by rw [fX5_finish]
  have hP9 : va_P (dC, dI) vwCl (wT cI cJ q (fX5_finish σ p1 p2 p3 p4 p5)) H := by rw [hF]; exact hP
  exact W.vret hx hb hr (fun t ht hW => ⟨rfl, by rw [ht]; exact hP9, hS.F ht⟩) hS.2.2 dX5_finish_30

def fX5_setShare (σ : St) (p1 : Int32) (p2 : Int32) (p3 : Int32) : St :=
  (sI (sI σ 7 p1.toNatClampNeg p2) 8 p1.toNatClampNeg p3)
set_option maxHeartbeats 4000000 in
set_option maxRecDepth 100000 in
theorem c_X5_setShare (l : Launch) (dC : Nat → ClassId) (dI : Nat → Nat → Nat) (cI cJ : ClassId) (q : Nat → Nat) (σ : St) (p1 : Int32) (p2 : Int32) (p3 : Int32) (hd : dT 30 q) (hT : vp_in p1 40) : Met l yX5_setShare (.code yX5_setShare cX5_setShare 4 none :: tb) { frames := 0, cells := 0, slots := 0, locals := 0 } (Pu (dC, dI) (tyC cI cJ) (wT cI cJ q σ) [.ref (q 3), .int p1, .int p2, .int p3]) (xw_Q none (dC, dI) (wT cI cJ q (fX5_setShare σ p1 p2 p3)) (aT 30 q)) 0 0 (aT 30 q) := by
  refine Met.ofW (cc := cX5_setShare) (maxL := 4) (ret := none) (by decide) rfl ?_
  intro p e s m args below meth c s₁ B hml hv
  obtain ⟨rfl, hP, hK⟩ := hv
  have hx := B.exec
  have hb := B.bytes
  have hr := B.returns
  have hts0 := atoms_spec (ws := .code yX5_setShare cX5_setShare 4 none :: tb) B.pre
  have hts : ∀ w ∈ tb, w.before _ s = true := fun w hw => hts0 w (List.mem_cons_of_mem _ hw)
  have hown : s.vm.findClass RX5 = some m.cls := findClass_of_methodNamed B.named
  have hlocks := B.notSynchronized
  have hl := lv_entry ([.ref (q 3), .int p1, .int p2, .int p3]) (n := 4) (Nat.le_of_ble_eq_true rfl)
  rw [lg_entry_eq]
  generalize (lg_sl ([.ref (q 3), .int p1, .int p2, .int p3]) ++ List.replicate (4 - (lg_sl ([.ref (q 3), .int p1, .int p2, .int p3])).length) Slot.unset).toArray = ls at hl ⊢
  have hl : lv_has ls 4 [(0, .ref (q 3)), (1, .int p1), (2, .int p2), (3, .int p3)] := hl
  obtain ⟨H, hHe⟩ : ∃ H, s.heap = H := ⟨_, rfl⟩
  rw [hHe] at hP ⊢
  obtain ⟨locs, hLe⟩ : ∃ x : List Loc, ([] : List Loc) = x := ⟨_, rfl⟩
  rw [hLe]
  have hS : va_S (aT 30 q) s.heap H locs := by rw [← hHe, ← hLe]; exact va_S.rf
  refine lv_aload_n hx hb dX5_setShare_0 rfl (lv_at hl 0 rfl) ?_
  refine va_get (D := (dC, dI)) (ci := 5) (v := .ref (q 11)) (C := RX5) (T := TX5) (N := 10) hx hb hts inX5 hown hK hP 3 rfl rfl 7 (by decide) (hts _ fl_X5_33) (fun _ h9 => h9) rfl dX5_setShare_1 ?_
  refine lv_iload_n hx hb dX5_setShare_4 rfl (lv_at hl 1 rfl) ?_
  refine lv_iload_n hx hb dX5_setShare_5 rfl (lv_at hl 2 rfl) ?_
  refine va_iast hx hb hK hP (wT_D hd) hS 11 0 rfl rfl (by assumption) dX5_setShare_6 (fun H locs hP _ hS => ?_)
  have hP : va_P (dC, dI) vwCl (wT cI cJ q (sI σ 7 p1.toNatClampNeg p2)) H := hP
  refine lv_aload_n hx hb dX5_setShare_7 rfl (lv_at hl 0 rfl) ?_
  refine va_get (D := (dC, dI)) (ci := 5) (v := .ref (q 12)) (C := RX5) (T := TX5) (N := 10) hx hb hts inX5 hown hK hP 3 rfl rfl 8 (by decide) (hts _ fl_X5_36) (fun _ h9 => h9) rfl dX5_setShare_8 ?_
  refine lv_iload_n hx hb dX5_setShare_11 rfl (lv_at hl 1 rfl) ?_
  refine lv_iload_n hx hb dX5_setShare_12 rfl (lv_at hl 3 rfl) ?_
  refine va_iast hx hb hK hP (wT_D hd) hS 12 0 rfl rfl (by assumption) dX5_setShare_13 (fun H locs hP _ hS => ?_)
  have hP : va_P (dC, dI) vwCl (wT cI cJ q (sI (sI σ 7 p1.toNatClampNeg p2) 8 p1.toNatClampNeg p3)) H := hP
  have hF : fX5_setShare σ p1 p2 p3 = (sI (sI σ 7 p1.toNatClampNeg p2) 8 p1.toNatClampNeg p3) := by rw [fX5_setShare]
  have hP9 : va_P (dC, dI) vwCl (wT cI cJ q (fX5_setShare σ p1 p2 p3)) H := by rw [hF]; exact hP
  exact W.vret hx hb hr (fun t ht hW => ⟨rfl, by rw [ht]; exact hP9, hS.F ht⟩) hS.2.2 dX5_setShare_14

def flX5_isTaken_3 (σ : St) (p1 : Int32) (p2 : Int32) (p3 : Int32) (p4 : Int32) : Nat → Nat → Int32
  | 0, i => 0
  | k + 1, i => (if (nI i) = p3 then flX5_isTaken_3 σ p1 p2 p3 p4 k (i + 1)  else (if (nI i) = p4 then flX5_isTaken_3 σ p1 p2 p3 p4 k (i + 1)  else (if (σ.1 0 i) = p1 then (if (σ.1 3 i) ≤ p2 then flX5_isTaken_3 σ p1 p2 p3 p4 k (i + 1)  else 1) else flX5_isTaken_3 σ p1 p2 p3 p4 k (i + 1) )))
def fX5_isTaken (σ : St) (p1 : Int32) (p2 : Int32) (p3 : Int32) (p4 : Int32) : Int32 :=
  flX5_isTaken_3 σ p1 p2 p3 p4 ((σ.2.1 1).toNatClampNeg) 0 
set_option maxHeartbeats 4000000 in
set_option maxRecDepth 100000 in
theorem c_X5_isTaken (l : Launch) (dC : Nat → ClassId) (dI : Nat → Nat → Nat) (cI cJ : ClassId) (q : Nat → Nat) (σ : St) (p1 : Int32) (p2 : Int32) (p3 : Int32) (p4 : Int32) (hI : IB σ) : Met l yX5_isTaken (.code yX5_isTaken cX5_isTaken 6 (some .boolean) :: tb) { frames := 0, cells := 0, slots := 0, locals := 0 } (Pu (dC, dI) (tyC cI cJ) (wT cI cJ q σ) [.ref (q 3), .int p1, .int p2, .int p3, .int p4]) (vp_Si (fun r => r = fX5_isTaken σ p1 p2 p3 p4)) 0 0 (fun _ => False) := by
  refine Met.ofW (cc := cX5_isTaken) (maxL := 6) (ret := (some .boolean)) (by decide) rfl ?_
  intro p e s m args below meth c s₁ B hml hv
  obtain ⟨rfl, hP, hK⟩ := hv
  have hx := B.exec
  have hb := B.bytes
  have hr := B.returns
  have hts0 := atoms_spec (ws := .code yX5_isTaken cX5_isTaken 6 (some .boolean) :: tb) B.pre
  have hts : ∀ w ∈ tb, w.before _ s = true := fun w hw => hts0 w (List.mem_cons_of_mem _ hw)
  have hown : s.vm.findClass RX5 = some m.cls := findClass_of_methodNamed B.named
  have hlocks := B.notSynchronized
  have hl := lv_entry ([.ref (q 3), .int p1, .int p2, .int p3, .int p4]) (n := 6) (Nat.le_of_ble_eq_true rfl)
  rw [lg_entry_eq]
  generalize (lg_sl ([.ref (q 3), .int p1, .int p2, .int p3, .int p4]) ++ List.replicate (6 - (lg_sl ([.ref (q 3), .int p1, .int p2, .int p3, .int p4])).length) Slot.unset).toArray = ls at hl ⊢
  have hl : lv_has ls 6 [(0, .ref (q 3)), (1, .int p1), (2, .int p2), (3, .int p3), (4, .int p4)] := hl
  refine lv_iconst (v := 0) hx hb dX5_isTaken_0 (by decide) ?_
  refine lv_istore (lv' := [(5, .int 0), (0, .ref (q 3)), (1, .int p1), (2, .int p2), (3, .int p3), (4, .int p4)]) hx hb dX5_isTaken_1 hl (by decide) rfl (fun ls hl => ?_)
  have hz : szI (σ.2.1 1) 40 := hI.1
  have hz2 := hz.2
  have loop_3 : ∀ (k i : Nat), i + k = (σ.2.1 1).toNatClampNeg → fX5_isTaken σ p1 p2 p3 p4 = flX5_isTaken_3 σ p1 p2 p3 p4 k i  → ∀ (ls : Array Slot), lv_has ls 6 [(0, .ref (q 3)), (1, .int p1), (2, .int p2), (3, .int p3), (4, .int p4), (5, .int (nI i))] → W p l e (headSpec (.code yX5_isTaken cX5_isTaken 6 (some .boolean) :: tb) { frames := 0, cells := 0, slots := 0, locals := 0 }).room s m (List.toArray [.ref (q 3), .int p1, .int p2, .int p3, .int p4]) below meth c s.heap [] 0 0 (MQ below (vp_Si (fun r => r = fX5_isTaken σ p1 p2 p3 p4)) (List.toArray [.ref (q 3), .int p1, .int p2, .int p3, .int p4]) s 0 0 (fun _ => False)) (F0 m 3 ls []) := by
    intro k
    induction k with
    | zero =>
      intro i  hik hE ls hl
      refine lv_iload hx hb dX5_isTaken_3 (lv_at hl 5 rfl) ?_
      refine lv_aload_n hx hb dX5_isTaken_5 rfl (lv_at hl 0 rfl) ?_
      refine va_get (D := (dC, dI)) (ci := 5) (v := .int (σ.2.1 1)) (C := RX5) (T := TX5) (N := 10) hx hb hts inX5 hown hK hP 3 rfl rfl 9 (by decide) (hts _ fl_X5_39) (fun _ h9 => h9) rfl dX5_isTaken_6 ?_
      refine lv_icmp_ge (tgt := 55) hx hb dX5_isTaken_9 (by decide) (fun c_9 => ?_) (fun c_9 => ?_)
      · refine lv_iconst (v := 0) hx hb dX5_isTaken_55 (by decide) ?_
        exact W.zret (v := 0) hx hb hr narrow_b0 (fun t ht hW => ⟨_, rfl, (by rw [hE, flX5_isTaken_3]), ht⟩) (fun _ h => absurd h List.not_mem_nil) dX5_isTaken_56
      · exact absurd (by rw [hz.1]; exact nI_le (by omega) (by omega)) c_9
    | succ k ih =>
      intro i  hik hE ls hl
      refine lv_iload hx hb dX5_isTaken_3 (lv_at hl 5 rfl) ?_
      refine lv_aload_n hx hb dX5_isTaken_5 rfl (lv_at hl 0 rfl) ?_
      refine va_get (D := (dC, dI)) (ci := 5) (v := .int (σ.2.1 1)) (C := RX5) (T := TX5) (N := 10) hx hb hts inX5 hown hK hP 3 rfl rfl 9 (by decide) (hts _ fl_X5_39) (fun _ h9 => h9) rfl dX5_isTaken_6 ?_
      refine lv_icmp_ge (tgt := 55) hx hb dX5_isTaken_9 (by decide) (fun c_9 => ?_) (fun c_9 => ?_)
      · exact absurd c_9 (by rw [hz.1]; exact nI_ge (by omega) (by omega))
      · refine lv_iload hx hb dX5_isTaken_12 (lv_at hl 5 rfl) ?_
        refine lv_iload_n hx hb dX5_isTaken_14 rfl (lv_at hl 3 rfl) ?_
        refine lv_icmp_eq (tgt := 49) hx hb dX5_isTaken_15 (by decide) (fun c_15 => ?_) (fun c_15 => ?_)
        · refine lv_iinc (v := nI (i + 1)) (lv' := [(5, .int (nI (i + 1))), (0, .ref (q 3)), (1, .int p1), (2, .int p2), (3, .int p3), (4, .int p4)]) hx hb dX5_isTaken_49 hl (k := 5) rfl (nI_1 i) (by decide) rfl (fun ls hl => ?_)
          refine lv_goto (tgt := 3) hx hb dX5_isTaken_52 (by decide) ?_
          exact ih (i + 1)  (by omega) (by rw [hE, flX5_isTaken_3, if_pos c_15]) ls (lv_sub hl [1, 2, 3, 4, 5, 0] rfl)
        · refine lv_iload hx hb dX5_isTaken_18 (lv_at hl 5 rfl) ?_
          refine lv_iload hx hb dX5_isTaken_20 (lv_at hl 4 rfl) ?_
          refine lv_icmp_eq (tgt := 49) hx hb dX5_isTaken_22 (by decide) (fun c_22 => ?_) (fun c_22 => ?_)
          · refine lv_iinc (v := nI (i + 1)) (lv' := [(5, .int (nI (i + 1))), (0, .ref (q 3)), (1, .int p1), (2, .int p2), (3, .int p3), (4, .int p4)]) hx hb dX5_isTaken_49 hl (k := 5) rfl (nI_1 i) (by decide) rfl (fun ls hl => ?_)
            refine lv_goto (tgt := 3) hx hb dX5_isTaken_52 (by decide) ?_
            exact ih (i + 1)  (by omega) (by rw [hE, flX5_isTaken_3, if_neg c_15, if_pos c_22]) ls (lv_sub hl [1, 2, 3, 4, 5, 0] rfl)
          · refine lv_aload_n hx hb dX5_isTaken_25 rfl (lv_at hl 0 rfl) ?_
            refine va_get (D := (dC, dI)) (ci := 5) (v := .ref (q 4)) (C := RX5) (T := TX5) (N := 10) hx hb hts inX5 hown hK hP 3 rfl rfl 0 (by decide) (hts _ fl_X5_9) (fun _ h9 => h9) rfl dX5_isTaken_26 ?_
            refine lv_iload hx hb dX5_isTaken_29 (lv_at hl 5 rfl) ?_
            refine xa_ild hx hb hK hP 4 0 rfl rfl (by omega) (by decide) dX5_isTaken_31 ?_
            refine lv_iload_n hx hb dX5_isTaken_32 rfl (lv_at hl 1 rfl) ?_
            refine lv_icmp_ne (tgt := 49) hx hb dX5_isTaken_33 (by decide) (fun c_33 => ?_) (fun c_33 => ?_)
            · refine lv_iinc (v := nI (i + 1)) (lv' := [(5, .int (nI (i + 1))), (0, .ref (q 3)), (1, .int p1), (2, .int p2), (3, .int p3), (4, .int p4)]) hx hb dX5_isTaken_49 hl (k := 5) rfl (nI_1 i) (by decide) rfl (fun ls hl => ?_)
              refine lv_goto (tgt := 3) hx hb dX5_isTaken_52 (by decide) ?_
              exact ih (i + 1)  (by omega) (by rw [hE, flX5_isTaken_3, if_neg c_15, if_neg c_22, if_neg c_33]) ls (lv_sub hl [1, 2, 3, 4, 5, 0] rfl)
            · refine lv_aload_n hx hb dX5_isTaken_36 rfl (lv_at hl 0 rfl) ?_
              refine va_get (D := (dC, dI)) (ci := 5) (v := .ref (q 7)) (C := RX5) (T := TX5) (N := 10) hx hb hts inX5 hown hK hP 3 rfl rfl 3 (by decide) (hts _ fl_X5_21) (fun _ h9 => h9) rfl dX5_isTaken_37 ?_
              refine lv_iload hx hb dX5_isTaken_40 (lv_at hl 5 rfl) ?_
              refine xa_ild hx hb hK hP 7 0 rfl rfl (by omega) (by decide) dX5_isTaken_42 ?_
              refine lv_iload_n hx hb dX5_isTaken_43 rfl (lv_at hl 2 rfl) ?_
              refine lv_icmp_le (tgt := 49) hx hb dX5_isTaken_44 (by decide) (fun c_44 => ?_) (fun c_44 => ?_)
              · refine lv_iinc (v := nI (i + 1)) (lv' := [(5, .int (nI (i + 1))), (0, .ref (q 3)), (1, .int p1), (2, .int p2), (3, .int p3), (4, .int p4)]) hx hb dX5_isTaken_49 hl (k := 5) rfl (nI_1 i) (by decide) rfl (fun ls hl => ?_)
                refine lv_goto (tgt := 3) hx hb dX5_isTaken_52 (by decide) ?_
                exact ih (i + 1)  (by omega) (by rw [hE, flX5_isTaken_3, if_neg c_15, if_neg c_22, if_pos c_33, if_pos c_44]) ls (lv_sub hl [1, 2, 3, 4, 5, 0] rfl)
              · refine lv_iconst (v := 1) hx hb dX5_isTaken_47 (by decide) ?_
                exact W.zret (v := 1) hx hb hr narrow_b1 (fun t ht hW => ⟨_, rfl, (by rw [hE, flX5_isTaken_3, if_neg c_15, if_neg c_22, if_pos c_33, if_neg c_44]), ht⟩) (fun _ h => absurd h List.not_mem_nil) dX5_isTaken_48
  exact loop_3 ((σ.2.1 1).toNatClampNeg) 0  (by rw [Nat.zero_add]) (by rw [fX5_isTaken]) ls (lv_sub hl [1, 2, 3, 4, 5, 0] rfl)

def fX5_hasEnd (σ : St) (p1 : Int32) : Int32 :=
  (if (σ.1 3 p1.toNatClampNeg) = 2001 then 0 else 1)
set_option maxHeartbeats 4000000 in
set_option maxRecDepth 100000 in
theorem c_X5_hasEnd (l : Launch) (dC : Nat → ClassId) (dI : Nat → Nat → Nat) (cI cJ : ClassId) (q : Nat → Nat) (σ : St) (p1 : Int32) (hT : vp_in p1 40) : Met l yX5_hasEnd (.code yX5_hasEnd cX5_hasEnd 2 (some .boolean) :: tb) { frames := 0, cells := 0, slots := 0, locals := 0 } (Pu (dC, dI) (tyC cI cJ) (wT cI cJ q σ) [.ref (q 3), .int p1]) (vp_Si (fun r => r = fX5_hasEnd σ p1)) 0 0 (fun _ => False) := by
  refine Met.ofW (cc := cX5_hasEnd) (maxL := 2) (ret := (some .boolean)) (by decide) rfl ?_
  intro p e s m args below meth c s₁ B hml hv
  obtain ⟨rfl, hP, hK⟩ := hv
  have hx := B.exec
  have hb := B.bytes
  have hr := B.returns
  have hts0 := atoms_spec (ws := .code yX5_hasEnd cX5_hasEnd 2 (some .boolean) :: tb) B.pre
  have hts : ∀ w ∈ tb, w.before _ s = true := fun w hw => hts0 w (List.mem_cons_of_mem _ hw)
  have hown : s.vm.findClass RX5 = some m.cls := findClass_of_methodNamed B.named
  have hlocks := B.notSynchronized
  have hl := lv_entry ([.ref (q 3), .int p1]) (n := 2) (Nat.le_of_ble_eq_true rfl)
  rw [lg_entry_eq]
  generalize (lg_sl ([.ref (q 3), .int p1]) ++ List.replicate (2 - (lg_sl ([.ref (q 3), .int p1])).length) Slot.unset).toArray = ls at hl ⊢
  have hl : lv_has ls 2 [(0, .ref (q 3)), (1, .int p1)] := hl
  refine lv_aload_n hx hb dX5_hasEnd_0 rfl (lv_at hl 0 rfl) ?_
  refine va_get (D := (dC, dI)) (ci := 5) (v := .ref (q 7)) (C := RX5) (T := TX5) (N := 10) hx hb hts inX5 hown hK hP 3 rfl rfl 3 (by decide) (hts _ fl_X5_21) (fun _ h9 => h9) rfl dX5_hasEnd_1 ?_
  refine lv_iload_n hx hb dX5_hasEnd_4 rfl (lv_at hl 1 rfl) ?_
  refine va_iald hx hb hK hP 7 0 rfl rfl (by assumption) dX5_hasEnd_5 ?_
  refine lv_sipush (v := 2001) hx hb dX5_hasEnd_6 (by decide) ?_
  refine lv_icmp_eq (tgt := 16) hx hb dX5_hasEnd_9 (by decide) (fun c_9 => ?_) (fun c_9 => ?_)
  · refine lv_iconst (v := 0) hx hb dX5_hasEnd_16 (by decide) ?_
    exact W.zret (v := 0) hx hb hr narrow_b0 (fun t ht hW => ⟨_, rfl, (by rw [fX5_hasEnd, if_pos c_9]), ht⟩) (fun _ h => absurd h List.not_mem_nil) dX5_hasEnd_17
  · refine lv_iconst (v := 1) hx hb dX5_hasEnd_12 (by decide) ?_
    refine lv_goto (tgt := 17) hx hb dX5_hasEnd_13 (by decide) ?_
    exact W.zret (v := 1) hx hb hr narrow_b1 (fun t ht hW => ⟨_, rfl, (by rw [fX5_hasEnd, if_neg c_9]), ht⟩) (fun _ h => absurd h List.not_mem_nil) dX5_hasEnd_17

def fX5_isKnown (σ : St) (p1 : Int32) (p2 : Int32) : Int32 :=
  (if (fX5_has σ p1) = 0 then 0 else (if p2 < (σ.1 2 p1.toNatClampNeg) then 0 else 1))
set_option maxHeartbeats 4000000 in
set_option maxRecDepth 100000 in
theorem c_X5_isKnown (l : Launch) (dC : Nat → ClassId) (dI : Nat → Nat → Nat) (cI cJ : ClassId) (q : Nat → Nat) (σ : St) (p1 : Int32) (p2 : Int32) (hI : IB σ) : Met l yX5_isKnown (.code yX5_isKnown cX5_isKnown 3 (some .boolean) :: tb) { frames := 1, cells := 0, slots := 0, locals := 21 } (Pu (dC, dI) (tyC cI cJ) (wT cI cJ q σ) [.ref (q 3), .int p1, .int p2]) (vp_Si (fun r => r = fX5_isKnown σ p1 p2)) 0 0 (fun _ => False) := by
  refine Met.ofW (cc := cX5_isKnown) (maxL := 3) (ret := (some .boolean)) (by decide) rfl ?_
  intro p e s m args below meth c s₁ B hml hv
  obtain ⟨rfl, hP, hK⟩ := hv
  have hx := B.exec
  have hb := B.bytes
  have hr := B.returns
  have hts0 := atoms_spec (ws := .code yX5_isKnown cX5_isKnown 3 (some .boolean) :: tb) B.pre
  have hts : ∀ w ∈ tb, w.before _ s = true := fun w hw => hts0 w (List.mem_cons_of_mem _ hw)
  have hown : s.vm.findClass RX5 = some m.cls := findClass_of_methodNamed B.named
  have hlocks := B.notSynchronized
  have hl := lv_entry ([.ref (q 3), .int p1, .int p2]) (n := 3) (Nat.le_of_ble_eq_true rfl)
  rw [lg_entry_eq]
  generalize (lg_sl ([.ref (q 3), .int p1, .int p2]) ++ List.replicate (3 - (lg_sl ([.ref (q 3), .int p1, .int p2])).length) Slot.unset).toArray = ls at hl ⊢
  have hl : lv_has ls 3 [(0, .ref (q 3)), (1, .int p1), (2, .int p2)] := hl
  refine lv_aload_n hx hb dX5_isKnown_0 rfl (lv_at hl 0 rfl) ?_
  refine lv_iload_n hx hb dX5_isKnown_1 rfl (lv_at hl 1 rfl) ?_
  refine xc_i (va_runV (As := [.int p1]) (rest := []) ⟨hx, hb, hml, hown, hts⟩ (c_X5_has l dC dI cI cJ q σ p1) (cwV 1 hts (gV ml_X5_47 im_X5_has se_X5_has in_X5 co_X5_has) rfl rfl rfl (by decide +kernel) ⟨Nat.le_of_ble_eq_true rfl, Nat.le_of_ble_eq_true rfl⟩) (preV hK hP (pos := 3) (ci := 5) rfl rfl) rfl rfl hl.1 rfl (lv_room (Nat.le_of_ble_eq_true rfl)) dX5_isKnown_2 ⟨Nat.zero_le _, Nat.zero_le _⟩) ?_
  refine lv_if_eq (tgt := 22) hx hb dX5_isKnown_5 (by decide) (fun c_5 => ?_) (fun c_5 => ?_)
  · refine lv_iconst (v := 0) hx hb dX5_isKnown_22 (by decide) ?_
    exact W.zret (v := 0) hx hb hr narrow_b0 (fun t ht hW => ⟨_, rfl, (by rw [fX5_isKnown, if_pos c_5]), ht⟩) (fun _ h => absurd h List.not_mem_nil) dX5_isKnown_23
  · refine lv_aload_n hx hb dX5_isKnown_8 rfl (lv_at hl 0 rfl) ?_
    refine va_get (D := (dC, dI)) (ci := 5) (v := .ref (q 6)) (C := RX5) (T := TX5) (N := 10) hx hb hts inX5 hown hK hP 3 rfl rfl 2 (by decide) (hts _ fl_X5_18) (fun _ h9 => h9) rfl dX5_isKnown_9 ?_
    refine lv_iload_n hx hb dX5_isKnown_12 rfl (lv_at hl 1 rfl) ?_
    refine va_iald hx hb hK hP 6 0 rfl rfl (has_in40 hI c_5) dX5_isKnown_13 ?_
    refine lv_iload_n hx hb dX5_isKnown_14 rfl (lv_at hl 2 rfl) ?_
    refine lv_icmp_gt (tgt := 22) hx hb dX5_isKnown_15 (by decide) (fun c_15 => ?_) (fun c_15 => ?_)
    · refine lv_iconst (v := 0) hx hb dX5_isKnown_22 (by decide) ?_
      exact W.zret (v := 0) hx hb hr narrow_b0 (fun t ht hW => ⟨_, rfl, (by rw [fX5_isKnown, if_neg c_5, if_pos c_15]), ht⟩) (fun _ h => absurd h List.not_mem_nil) dX5_isKnown_23
    · refine lv_iconst (v := 1) hx hb dX5_isKnown_18 (by decide) ?_
      refine lv_goto (tgt := 23) hx hb dX5_isKnown_19 (by decide) ?_
      exact W.zret (v := 1) hx hb hr narrow_b1 (fun t ht hW => ⟨_, rfl, (by rw [fX5_isKnown, if_neg c_5, if_neg c_15]), ht⟩) (fun _ h => absurd h List.not_mem_nil) dX5_isKnown_23

theorem tknown_in {σ : St} {x k : Int32} (hI : IB σ) (c : ¬ fX5_isKnown σ x k = 0) : vp_in x 40 := by
  unfold fX5_isKnown at c
  split at c
  · exact absurd rfl c
  · exact has_in40 hI (by assumption)

set_option maxHeartbeats 4000000 in
set_option maxRecDepth 100000 in
theorem c_X5_codeOf (l : Launch) (dC : Nat → ClassId) (dI : Nat → Nat → Nat) (cI cJ : ClassId) (q : Nat → Nat) (σ : St) (p1 : Int32) (hT : vp_in p1 40) : Met l yX5_codeOf (.code yX5_codeOf cX5_codeOf 2 (some .int) :: tb) { frames := 0, cells := 0, slots := 0, locals := 0 } (Pu (dC, dI) (tyC cI cJ) (wT cI cJ q σ) [.ref (q 3), .int p1]) (vp_Si (fun r => r = σ.1 0 p1.toNatClampNeg)) 0 0 (fun _ => False) := by
  refine Met.ofW (cc := cX5_codeOf) (maxL := 2) (ret := (some .int)) (by decide) rfl ?_
  intro p e s m args below meth c s₁ B hml hv
  obtain ⟨rfl, hP, hK⟩ := hv
  have hx := B.exec
  have hb := B.bytes
  have hr := B.returns
  have hts0 := atoms_spec (ws := .code yX5_codeOf cX5_codeOf 2 (some .int) :: tb) B.pre
  have hts : ∀ w ∈ tb, w.before _ s = true := fun w hw => hts0 w (List.mem_cons_of_mem _ hw)
  have hown : s.vm.findClass RX5 = some m.cls := findClass_of_methodNamed B.named
  have hlocks := B.notSynchronized
  have hl := lv_entry ([.ref (q 3), .int p1]) (n := 2) (Nat.le_of_ble_eq_true rfl)
  rw [lg_entry_eq]
  generalize (lg_sl ([.ref (q 3), .int p1]) ++ List.replicate (2 - (lg_sl ([.ref (q 3), .int p1])).length) Slot.unset).toArray = ls at hl ⊢
  have hl : lv_has ls 2 [(0, .ref (q 3)), (1, .int p1)] := hl
  refine lv_aload_n hx hb dX5_codeOf_0 rfl (lv_at hl 0 rfl) ?_
  refine va_get (D := (dC, dI)) (ci := 5) (v := .ref (q 4)) (C := RX5) (T := TX5) (N := 10) hx hb hts inX5 hown hK hP 3 rfl rfl 0 (by decide) (hts _ fl_X5_9) (fun _ h9 => h9) rfl dX5_codeOf_1 ?_
  refine lv_iload_n hx hb dX5_codeOf_4 rfl (lv_at hl 1 rfl) ?_
  refine va_iald hx hb hK hP 4 0 rfl rfl (by assumption) dX5_codeOf_5 ?_
  exact W.iret (v := σ.1 0 p1.toNatClampNeg) hx hb hr (fun t ht hW => ⟨_, rfl, rfl, ht⟩) (fun _ h => absurd h List.not_mem_nil) dX5_codeOf_6

set_option maxHeartbeats 4000000 in
set_option maxRecDepth 100000 in
theorem c_X5_birthOf (l : Launch) (dC : Nat → ClassId) (dI : Nat → Nat → Nat) (cI cJ : ClassId) (q : Nat → Nat) (σ : St) (p1 : Int32) (hT : vp_in p1 40) : Met l yX5_birthOf (.code yX5_birthOf cX5_birthOf 2 (some .int) :: tb) { frames := 0, cells := 0, slots := 0, locals := 0 } (Pu (dC, dI) (tyC cI cJ) (wT cI cJ q σ) [.ref (q 3), .int p1]) (vp_Si (fun r => r = σ.1 1 p1.toNatClampNeg)) 0 0 (fun _ => False) := by
  refine Met.ofW (cc := cX5_birthOf) (maxL := 2) (ret := (some .int)) (by decide) rfl ?_
  intro p e s m args below meth c s₁ B hml hv
  obtain ⟨rfl, hP, hK⟩ := hv
  have hx := B.exec
  have hb := B.bytes
  have hr := B.returns
  have hts0 := atoms_spec (ws := .code yX5_birthOf cX5_birthOf 2 (some .int) :: tb) B.pre
  have hts : ∀ w ∈ tb, w.before _ s = true := fun w hw => hts0 w (List.mem_cons_of_mem _ hw)
  have hown : s.vm.findClass RX5 = some m.cls := findClass_of_methodNamed B.named
  have hlocks := B.notSynchronized
  have hl := lv_entry ([.ref (q 3), .int p1]) (n := 2) (Nat.le_of_ble_eq_true rfl)
  rw [lg_entry_eq]
  generalize (lg_sl ([.ref (q 3), .int p1]) ++ List.replicate (2 - (lg_sl ([.ref (q 3), .int p1])).length) Slot.unset).toArray = ls at hl ⊢
  have hl : lv_has ls 2 [(0, .ref (q 3)), (1, .int p1)] := hl
  refine lv_aload_n hx hb dX5_birthOf_0 rfl (lv_at hl 0 rfl) ?_
  refine va_get (D := (dC, dI)) (ci := 5) (v := .ref (q 5)) (C := RX5) (T := TX5) (N := 10) hx hb hts inX5 hown hK hP 3 rfl rfl 1 (by decide) (hts _ fl_X5_15) (fun _ h9 => h9) rfl dX5_birthOf_1 ?_
  refine lv_iload_n hx hb dX5_birthOf_4 rfl (lv_at hl 1 rfl) ?_
  refine va_iald hx hb hK hP 5 0 rfl rfl (by assumption) dX5_birthOf_5 ?_
  exact W.iret (v := σ.1 1 p1.toNatClampNeg) hx hb hr (fun t ht hW => ⟨_, rfl, rfl, ht⟩) (fun _ h => absurd h List.not_mem_nil) dX5_birthOf_6

def fX5_isEndKnown (σ : St) (p1 : Int32) (p2 : Int32) : Int32 :=
  (if p2 < (σ.1 4 p1.toNatClampNeg) then 0 else 1)
set_option maxHeartbeats 4000000 in
set_option maxRecDepth 100000 in
theorem c_X5_isEndKnown (l : Launch) (dC : Nat → ClassId) (dI : Nat → Nat → Nat) (cI cJ : ClassId) (q : Nat → Nat) (σ : St) (p1 : Int32) (p2 : Int32) (hT : vp_in p1 40) : Met l yX5_isEndKnown (.code yX5_isEndKnown cX5_isEndKnown 3 (some .boolean) :: tb) { frames := 0, cells := 0, slots := 0, locals := 0 } (Pu (dC, dI) (tyC cI cJ) (wT cI cJ q σ) [.ref (q 3), .int p1, .int p2]) (vp_Si (fun r => r = fX5_isEndKnown σ p1 p2)) 0 0 (fun _ => False) := by
  refine Met.ofW (cc := cX5_isEndKnown) (maxL := 3) (ret := (some .boolean)) (by decide) rfl ?_
  intro p e s m args below meth c s₁ B hml hv
  obtain ⟨rfl, hP, hK⟩ := hv
  have hx := B.exec
  have hb := B.bytes
  have hr := B.returns
  have hts0 := atoms_spec (ws := .code yX5_isEndKnown cX5_isEndKnown 3 (some .boolean) :: tb) B.pre
  have hts : ∀ w ∈ tb, w.before _ s = true := fun w hw => hts0 w (List.mem_cons_of_mem _ hw)
  have hown : s.vm.findClass RX5 = some m.cls := findClass_of_methodNamed B.named
  have hlocks := B.notSynchronized
  have hl := lv_entry ([.ref (q 3), .int p1, .int p2]) (n := 3) (Nat.le_of_ble_eq_true rfl)
  rw [lg_entry_eq]
  generalize (lg_sl ([.ref (q 3), .int p1, .int p2]) ++ List.replicate (3 - (lg_sl ([.ref (q 3), .int p1, .int p2])).length) Slot.unset).toArray = ls at hl ⊢
  have hl : lv_has ls 3 [(0, .ref (q 3)), (1, .int p1), (2, .int p2)] := hl
  refine lv_aload_n hx hb dX5_isEndKnown_0 rfl (lv_at hl 0 rfl) ?_
  refine va_get (D := (dC, dI)) (ci := 5) (v := .ref (q 8)) (C := RX5) (T := TX5) (N := 10) hx hb hts inX5 hown hK hP 3 rfl rfl 4 (by decide) (hts _ fl_X5_24) (fun _ h9 => h9) rfl dX5_isEndKnown_1 ?_
  refine lv_iload_n hx hb dX5_isEndKnown_4 rfl (lv_at hl 1 rfl) ?_
  refine va_iald hx hb hK hP 8 0 rfl rfl (by assumption) dX5_isEndKnown_5 ?_
  refine lv_iload_n hx hb dX5_isEndKnown_6 rfl (lv_at hl 2 rfl) ?_
  refine lv_icmp_gt (tgt := 14) hx hb dX5_isEndKnown_7 (by decide) (fun c_7 => ?_) (fun c_7 => ?_)
  · refine lv_iconst (v := 0) hx hb dX5_isEndKnown_14 (by decide) ?_
    exact W.zret (v := 0) hx hb hr narrow_b0 (fun t ht hW => ⟨_, rfl, (by rw [fX5_isEndKnown, if_pos c_7]), ht⟩) (fun _ h => absurd h List.not_mem_nil) dX5_isEndKnown_15
  · refine lv_iconst (v := 1) hx hb dX5_isEndKnown_10 (by decide) ?_
    refine lv_goto (tgt := 15) hx hb dX5_isEndKnown_11 (by decide) ?_
    exact W.zret (v := 1) hx hb hr narrow_b1 (fun t ht hW => ⟨_, rfl, (by rw [fX5_isEndKnown, if_neg c_7]), ht⟩) (fun _ h => absurd h List.not_mem_nil) dX5_isEndKnown_15

def fX5_endOf (σ : St) (p1 : Int32) (p2 : Int32) : Int32 :=
  (if (fX5_isEndKnown σ p1 p2) = 0 then 2001 else σ.1 3 p1.toNatClampNeg)
set_option maxHeartbeats 4000000 in
set_option maxRecDepth 100000 in
theorem c_X5_endOf (l : Launch) (dC : Nat → ClassId) (dI : Nat → Nat → Nat) (cI cJ : ClassId) (q : Nat → Nat) (σ : St) (p1 : Int32) (p2 : Int32) (hT : vp_in p1 40) : Met l yX5_endOf (.code yX5_endOf cX5_endOf 3 (some .int) :: tb) { frames := 1, cells := 0, slots := 0, locals := 22 } (Pu (dC, dI) (tyC cI cJ) (wT cI cJ q σ) [.ref (q 3), .int p1, .int p2]) (vp_Si (fun r => r = fX5_endOf σ p1 p2)) 0 0 (fun _ => False) := by
  refine Met.ofW (cc := cX5_endOf) (maxL := 3) (ret := (some .int)) (by decide) rfl ?_
  intro p e s m args below meth c s₁ B hml hv
  obtain ⟨rfl, hP, hK⟩ := hv
  have hx := B.exec
  have hb := B.bytes
  have hr := B.returns
  have hts0 := atoms_spec (ws := .code yX5_endOf cX5_endOf 3 (some .int) :: tb) B.pre
  have hts : ∀ w ∈ tb, w.before _ s = true := fun w hw => hts0 w (List.mem_cons_of_mem _ hw)
  have hown : s.vm.findClass RX5 = some m.cls := findClass_of_methodNamed B.named
  have hlocks := B.notSynchronized
  have hl := lv_entry ([.ref (q 3), .int p1, .int p2]) (n := 3) (Nat.le_of_ble_eq_true rfl)
  rw [lg_entry_eq]
  generalize (lg_sl ([.ref (q 3), .int p1, .int p2]) ++ List.replicate (3 - (lg_sl ([.ref (q 3), .int p1, .int p2])).length) Slot.unset).toArray = ls at hl ⊢
  have hl : lv_has ls 3 [(0, .ref (q 3)), (1, .int p1), (2, .int p2)] := hl
  refine lv_aload_n hx hb dX5_endOf_0 rfl (lv_at hl 0 rfl) ?_
  refine lv_iload_n hx hb dX5_endOf_1 rfl (lv_at hl 1 rfl) ?_
  refine lv_iload_n hx hb dX5_endOf_2 rfl (lv_at hl 2 rfl) ?_
  refine xc_i (va_runV (As := [.int p1, .int p2]) (rest := []) ⟨hx, hb, hml, hown, hts⟩ (c_X5_isEndKnown l dC dI cI cJ q σ p1 p2 (by assumption)) (cwV 2 hts (gV ml_X5_51 im_X5_isEndKnown se_X5_isEndKnown in_X5 co_X5_isEndKnown) rfl rfl rfl (by decide +kernel) ⟨Nat.le_of_ble_eq_true rfl, Nat.le_of_ble_eq_true rfl⟩) (preV hK hP (pos := 3) (ci := 5) rfl rfl) rfl rfl hl.1 rfl (lv_room (Nat.le_of_ble_eq_true rfl)) dX5_endOf_3 ⟨Nat.zero_le _, Nat.zero_le _⟩) ?_
  refine lv_if_eq (tgt := 18) hx hb dX5_endOf_6 (by decide) (fun c_6 => ?_) (fun c_6 => ?_)
  · refine lv_sipush (v := 2001) hx hb dX5_endOf_18 (by decide) ?_
    exact W.iret (v := 2001) hx hb hr (fun t ht hW => ⟨_, rfl, (by rw [fX5_endOf, if_pos c_6]), ht⟩) (fun _ h => absurd h List.not_mem_nil) dX5_endOf_21
  · refine lv_aload_n hx hb dX5_endOf_9 rfl (lv_at hl 0 rfl) ?_
    refine va_get (D := (dC, dI)) (ci := 5) (v := .ref (q 7)) (C := RX5) (T := TX5) (N := 10) hx hb hts inX5 hown hK hP 3 rfl rfl 3 (by decide) (hts _ fl_X5_21) (fun _ h9 => h9) rfl dX5_endOf_10 ?_
    refine lv_iload_n hx hb dX5_endOf_13 rfl (lv_at hl 1 rfl) ?_
    refine va_iald hx hb hK hP 7 0 rfl rfl (by assumption) dX5_endOf_14 ?_
    refine lv_goto (tgt := 21) hx hb dX5_endOf_15 (by decide) ?_
    exact W.iret (v := σ.1 3 p1.toNatClampNeg) hx hb hr (fun t ht hW => ⟨_, rfl, (by rw [fX5_endOf, if_neg c_6]), ht⟩) (fun _ h => absurd h List.not_mem_nil) dX5_endOf_21

def fX5_endingOf (σ : St) (p1 : Int32) (p2 : Int32) : Int32 :=
  (if (fX5_isEndKnown σ p1 p2) = 0 then 0 else σ.1 5 p1.toNatClampNeg)
set_option maxHeartbeats 4000000 in
set_option maxRecDepth 100000 in
theorem c_X5_endingOf (l : Launch) (dC : Nat → ClassId) (dI : Nat → Nat → Nat) (cI cJ : ClassId) (q : Nat → Nat) (σ : St) (p1 : Int32) (p2 : Int32) (hT : vp_in p1 40) : Met l yX5_endingOf (.code yX5_endingOf cX5_endingOf 3 (some .int) :: tb) { frames := 1, cells := 0, slots := 0, locals := 22 } (Pu (dC, dI) (tyC cI cJ) (wT cI cJ q σ) [.ref (q 3), .int p1, .int p2]) (vp_Si (fun r => r = fX5_endingOf σ p1 p2)) 0 0 (fun _ => False) := by
  refine Met.ofW (cc := cX5_endingOf) (maxL := 3) (ret := (some .int)) (by decide) rfl ?_
  intro p e s m args below meth c s₁ B hml hv
  obtain ⟨rfl, hP, hK⟩ := hv
  have hx := B.exec
  have hb := B.bytes
  have hr := B.returns
  have hts0 := atoms_spec (ws := .code yX5_endingOf cX5_endingOf 3 (some .int) :: tb) B.pre
  have hts : ∀ w ∈ tb, w.before _ s = true := fun w hw => hts0 w (List.mem_cons_of_mem _ hw)
  have hown : s.vm.findClass RX5 = some m.cls := findClass_of_methodNamed B.named
  have hlocks := B.notSynchronized
  have hl := lv_entry ([.ref (q 3), .int p1, .int p2]) (n := 3) (Nat.le_of_ble_eq_true rfl)
  rw [lg_entry_eq]
  generalize (lg_sl ([.ref (q 3), .int p1, .int p2]) ++ List.replicate (3 - (lg_sl ([.ref (q 3), .int p1, .int p2])).length) Slot.unset).toArray = ls at hl ⊢
  have hl : lv_has ls 3 [(0, .ref (q 3)), (1, .int p1), (2, .int p2)] := hl
  refine lv_aload_n hx hb dX5_endingOf_0 rfl (lv_at hl 0 rfl) ?_
  refine lv_iload_n hx hb dX5_endingOf_1 rfl (lv_at hl 1 rfl) ?_
  refine lv_iload_n hx hb dX5_endingOf_2 rfl (lv_at hl 2 rfl) ?_
  refine xc_i (va_runV (As := [.int p1, .int p2]) (rest := []) ⟨hx, hb, hml, hown, hts⟩ (c_X5_isEndKnown l dC dI cI cJ q σ p1 p2 (by assumption)) (cwV 2 hts (gV ml_X5_51 im_X5_isEndKnown se_X5_isEndKnown in_X5 co_X5_isEndKnown) rfl rfl rfl (by decide +kernel) ⟨Nat.le_of_ble_eq_true rfl, Nat.le_of_ble_eq_true rfl⟩) (preV hK hP (pos := 3) (ci := 5) rfl rfl) rfl rfl hl.1 rfl (lv_room (Nat.le_of_ble_eq_true rfl)) dX5_endingOf_3 ⟨Nat.zero_le _, Nat.zero_le _⟩) ?_
  refine lv_if_eq (tgt := 18) hx hb dX5_endingOf_6 (by decide) (fun c_6 => ?_) (fun c_6 => ?_)
  · refine lv_iconst (v := 0) hx hb dX5_endingOf_18 (by decide) ?_
    exact W.iret (v := 0) hx hb hr (fun t ht hW => ⟨_, rfl, (by rw [fX5_endingOf, if_pos c_6]), ht⟩) (fun _ h => absurd h List.not_mem_nil) dX5_endingOf_19
  · refine lv_aload_n hx hb dX5_endingOf_9 rfl (lv_at hl 0 rfl) ?_
    refine va_get (D := (dC, dI)) (ci := 5) (v := .ref (q 9)) (C := RX5) (T := TX5) (N := 10) hx hb hts inX5 hown hK hP 3 rfl rfl 5 (by decide) (hts _ fl_X5_27) (fun _ h9 => h9) rfl dX5_endingOf_10 ?_
    refine lv_iload_n hx hb dX5_endingOf_13 rfl (lv_at hl 1 rfl) ?_
    refine va_iald hx hb hK hP 9 0 rfl rfl (by assumption) dX5_endingOf_14 ?_
    refine lv_goto (tgt := 19) hx hb dX5_endingOf_15 (by decide) ?_
    exact W.iret (v := σ.1 5 p1.toNatClampNeg) hx hb hr (fun t ht hW => ⟨_, rfl, (by rw [fX5_endingOf, if_neg c_6]), ht⟩) (fun _ h => absurd h List.not_mem_nil) dX5_endingOf_19

def fX5_heirOf (σ : St) (p1 : Int32) (p2 : Int32) : Int32 :=
  (if (fX5_isEndKnown σ p1 p2) = 0 then (-1) else σ.1 6 p1.toNatClampNeg)
set_option maxHeartbeats 4000000 in
set_option maxRecDepth 100000 in
theorem c_X5_heirOf (l : Launch) (dC : Nat → ClassId) (dI : Nat → Nat → Nat) (cI cJ : ClassId) (q : Nat → Nat) (σ : St) (p1 : Int32) (p2 : Int32) (hT : vp_in p1 40) : Met l yX5_heirOf (.code yX5_heirOf cX5_heirOf 3 (some .int) :: tb) { frames := 1, cells := 0, slots := 0, locals := 22 } (Pu (dC, dI) (tyC cI cJ) (wT cI cJ q σ) [.ref (q 3), .int p1, .int p2]) (vp_Si (fun r => r = fX5_heirOf σ p1 p2)) 0 0 (fun _ => False) := by
  refine Met.ofW (cc := cX5_heirOf) (maxL := 3) (ret := (some .int)) (by decide) rfl ?_
  intro p e s m args below meth c s₁ B hml hv
  obtain ⟨rfl, hP, hK⟩ := hv
  have hx := B.exec
  have hb := B.bytes
  have hr := B.returns
  have hts0 := atoms_spec (ws := .code yX5_heirOf cX5_heirOf 3 (some .int) :: tb) B.pre
  have hts : ∀ w ∈ tb, w.before _ s = true := fun w hw => hts0 w (List.mem_cons_of_mem _ hw)
  have hown : s.vm.findClass RX5 = some m.cls := findClass_of_methodNamed B.named
  have hlocks := B.notSynchronized
  have hl := lv_entry ([.ref (q 3), .int p1, .int p2]) (n := 3) (Nat.le_of_ble_eq_true rfl)
  rw [lg_entry_eq]
  generalize (lg_sl ([.ref (q 3), .int p1, .int p2]) ++ List.replicate (3 - (lg_sl ([.ref (q 3), .int p1, .int p2])).length) Slot.unset).toArray = ls at hl ⊢
  have hl : lv_has ls 3 [(0, .ref (q 3)), (1, .int p1), (2, .int p2)] := hl
  refine lv_aload_n hx hb dX5_heirOf_0 rfl (lv_at hl 0 rfl) ?_
  refine lv_iload_n hx hb dX5_heirOf_1 rfl (lv_at hl 1 rfl) ?_
  refine lv_iload_n hx hb dX5_heirOf_2 rfl (lv_at hl 2 rfl) ?_
  refine xc_i (va_runV (As := [.int p1, .int p2]) (rest := []) ⟨hx, hb, hml, hown, hts⟩ (c_X5_isEndKnown l dC dI cI cJ q σ p1 p2 (by assumption)) (cwV 2 hts (gV ml_X5_51 im_X5_isEndKnown se_X5_isEndKnown in_X5 co_X5_isEndKnown) rfl rfl rfl (by decide +kernel) ⟨Nat.le_of_ble_eq_true rfl, Nat.le_of_ble_eq_true rfl⟩) (preV hK hP (pos := 3) (ci := 5) rfl rfl) rfl rfl hl.1 rfl (lv_room (Nat.le_of_ble_eq_true rfl)) dX5_heirOf_3 ⟨Nat.zero_le _, Nat.zero_le _⟩) ?_
  refine lv_if_eq (tgt := 18) hx hb dX5_heirOf_6 (by decide) (fun c_6 => ?_) (fun c_6 => ?_)
  · refine lv_iconst (v := (-1)) hx hb dX5_heirOf_18 (by decide) ?_
    exact W.iret (v := (-1)) hx hb hr (fun t ht hW => ⟨_, rfl, (by rw [fX5_heirOf, if_pos c_6]), ht⟩) (fun _ h => absurd h List.not_mem_nil) dX5_heirOf_19
  · refine lv_aload_n hx hb dX5_heirOf_9 rfl (lv_at hl 0 rfl) ?_
    refine va_get (D := (dC, dI)) (ci := 5) (v := .ref (q 10)) (C := RX5) (T := TX5) (N := 10) hx hb hts inX5 hown hK hP 3 rfl rfl 6 (by decide) (hts _ fl_X5_30) (fun _ h9 => h9) rfl dX5_heirOf_10 ?_
    refine lv_iload_n hx hb dX5_heirOf_13 rfl (lv_at hl 1 rfl) ?_
    refine va_iald hx hb hK hP 10 0 rfl rfl (by assumption) dX5_heirOf_14 ?_
    refine lv_goto (tgt := 19) hx hb dX5_heirOf_15 (by decide) ?_
    exact W.iret (v := σ.1 6 p1.toNatClampNeg) hx hb hr (fun t ht hW => ⟨_, rfl, (by rw [fX5_heirOf, if_neg c_6]), ht⟩) (fun _ h => absurd h List.not_mem_nil) dX5_heirOf_19

def fX5_livesOn (σ : St) (p1 : Int32) (p2 : Int32) (p3 : Int32) : Int32 :=
  (if (fX5_isKnown σ p1 p3) = 0 then 0 else (if p2 < (σ.1 1 p1.toNatClampNeg) then 0 else (if (fX5_endOf σ p1 p3) ≤ p2 then 0 else 1)))
set_option maxHeartbeats 4000000 in
set_option maxRecDepth 100000 in
theorem c_X5_livesOn (l : Launch) (dC : Nat → ClassId) (dI : Nat → Nat → Nat) (cI cJ : ClassId) (q : Nat → Nat) (σ : St) (p1 : Int32) (p2 : Int32) (p3 : Int32) (hI : IB σ) : Met l yX5_livesOn (.code yX5_livesOn cX5_livesOn 4 (some .boolean) :: tb) { frames := 2, cells := 0, slots := 0, locals := 44 } (Pu (dC, dI) (tyC cI cJ) (wT cI cJ q σ) [.ref (q 3), .int p1, .int p2, .int p3]) (vp_Si (fun r => r = fX5_livesOn σ p1 p2 p3)) 0 0 (fun _ => False) := by
  refine Met.ofW (cc := cX5_livesOn) (maxL := 4) (ret := (some .boolean)) (by decide) rfl ?_
  intro p e s m args below meth c s₁ B hml hv
  obtain ⟨rfl, hP, hK⟩ := hv
  have hx := B.exec
  have hb := B.bytes
  have hr := B.returns
  have hts0 := atoms_spec (ws := .code yX5_livesOn cX5_livesOn 4 (some .boolean) :: tb) B.pre
  have hts : ∀ w ∈ tb, w.before _ s = true := fun w hw => hts0 w (List.mem_cons_of_mem _ hw)
  have hown : s.vm.findClass RX5 = some m.cls := findClass_of_methodNamed B.named
  have hlocks := B.notSynchronized
  have hl := lv_entry ([.ref (q 3), .int p1, .int p2, .int p3]) (n := 4) (Nat.le_of_ble_eq_true rfl)
  rw [lg_entry_eq]
  generalize (lg_sl ([.ref (q 3), .int p1, .int p2, .int p3]) ++ List.replicate (4 - (lg_sl ([.ref (q 3), .int p1, .int p2, .int p3])).length) Slot.unset).toArray = ls at hl ⊢
  have hl : lv_has ls 4 [(0, .ref (q 3)), (1, .int p1), (2, .int p2), (3, .int p3)] := hl
  refine lv_aload_n hx hb dX5_livesOn_0 rfl (lv_at hl 0 rfl) ?_
  refine lv_iload_n hx hb dX5_livesOn_1 rfl (lv_at hl 1 rfl) ?_
  refine lv_iload_n hx hb dX5_livesOn_2 rfl (lv_at hl 3 rfl) ?_
  refine xc_i (va_runV (As := [.int p1, .int p3]) (rest := []) ⟨hx, hb, hml, hown, hts⟩ (c_X5_isKnown l dC dI cI cJ q σ p1 p3 (by assumption)) (cwV 2 hts (gV ml_X5_55 im_X5_isKnown se_X5_isKnown in_X5 co_X5_isKnown) rfl rfl rfl (by decide +kernel) ⟨Nat.le_of_ble_eq_true rfl, Nat.le_of_ble_eq_true rfl⟩) (preV hK hP (pos := 3) (ci := 5) rfl rfl) rfl rfl hl.1 rfl (lv_room (Nat.le_of_ble_eq_true rfl)) dX5_livesOn_3 ⟨Nat.zero_le _, Nat.zero_le _⟩) ?_
  refine lv_if_eq (tgt := 33) hx hb dX5_livesOn_6 (by decide) (fun c_6 => ?_) (fun c_6 => ?_)
  · refine lv_iconst (v := 0) hx hb dX5_livesOn_33 (by decide) ?_
    exact W.zret (v := 0) hx hb hr narrow_b0 (fun t ht hW => ⟨_, rfl, (by rw [fX5_livesOn, if_pos c_6]), ht⟩) (fun _ h => absurd h List.not_mem_nil) dX5_livesOn_34
  · refine lv_aload_n hx hb dX5_livesOn_9 rfl (lv_at hl 0 rfl) ?_
    refine va_get (D := (dC, dI)) (ci := 5) (v := .ref (q 5)) (C := RX5) (T := TX5) (N := 10) hx hb hts inX5 hown hK hP 3 rfl rfl 1 (by decide) (hts _ fl_X5_15) (fun _ h9 => h9) rfl dX5_livesOn_10 ?_
    refine lv_iload_n hx hb dX5_livesOn_13 rfl (lv_at hl 1 rfl) ?_
    refine va_iald hx hb hK hP 5 0 rfl rfl (tknown_in hI c_6) dX5_livesOn_14 ?_
    refine lv_iload_n hx hb dX5_livesOn_15 rfl (lv_at hl 2 rfl) ?_
    refine lv_icmp_gt (tgt := 33) hx hb dX5_livesOn_16 (by decide) (fun c_16 => ?_) (fun c_16 => ?_)
    · refine lv_iconst (v := 0) hx hb dX5_livesOn_33 (by decide) ?_
      exact W.zret (v := 0) hx hb hr narrow_b0 (fun t ht hW => ⟨_, rfl, (by rw [fX5_livesOn, if_neg c_6, if_pos c_16]), ht⟩) (fun _ h => absurd h List.not_mem_nil) dX5_livesOn_34
    · refine lv_iload_n hx hb dX5_livesOn_19 rfl (lv_at hl 2 rfl) ?_
      refine lv_aload_n hx hb dX5_livesOn_20 rfl (lv_at hl 0 rfl) ?_
      refine lv_iload_n hx hb dX5_livesOn_21 rfl (lv_at hl 1 rfl) ?_
      refine lv_iload_n hx hb dX5_livesOn_22 rfl (lv_at hl 3 rfl) ?_
      refine xc_i (va_runV (As := [.int p1, .int p3]) (rest := [.int p2]) ⟨hx, hb, hml, hown, hts⟩ (c_X5_endOf l dC dI cI cJ q σ p1 p3 (tknown_in hI c_6)) (cwV 2 hts (gV ml_X5_58 im_X5_endOf se_X5_endOf in_X5 co_X5_endOf) rfl rfl rfl (by decide +kernel) ⟨Nat.le_of_ble_eq_true rfl, Nat.le_of_ble_eq_true rfl⟩) (preV hK hP (pos := 3) (ci := 5) rfl rfl) rfl rfl hl.1 rfl (lv_room (Nat.le_of_ble_eq_true rfl)) dX5_livesOn_23 ⟨Nat.zero_le _, Nat.zero_le _⟩) ?_
      refine lv_icmp_ge (tgt := 33) hx hb dX5_livesOn_26 (by decide) (fun c_26 => ?_) (fun c_26 => ?_)
      · refine lv_iconst (v := 0) hx hb dX5_livesOn_33 (by decide) ?_
        exact W.zret (v := 0) hx hb hr narrow_b0 (fun t ht hW => ⟨_, rfl, (by rw [fX5_livesOn, if_neg c_6, if_neg c_16, if_pos c_26]), ht⟩) (fun _ h => absurd h List.not_mem_nil) dX5_livesOn_34
      · refine lv_iconst (v := 1) hx hb dX5_livesOn_29 (by decide) ?_
        refine lv_goto (tgt := 34) hx hb dX5_livesOn_30 (by decide) ?_
        exact W.zret (v := 1) hx hb hr narrow_b1 (fun t ht hW => ⟨_, rfl, (by rw [fX5_livesOn, if_neg c_6, if_neg c_16, if_neg c_26]), ht⟩) (fun _ h => absurd h List.not_mem_nil) dX5_livesOn_34

def flX5_livingOn_3 (σ : St) (p1 : Int32) (p2 : Int32) (p3 : Int32) : Nat → Nat → Int32
  | 0, i => (-1)
  | k + 1, i => (if (σ.1 0 i) = p1 then (if (fX5_livesOn σ (nI i) p2 p3) = 0 then flX5_livingOn_3 σ p1 p2 p3 k (i + 1)  else nI i) else flX5_livingOn_3 σ p1 p2 p3 k (i + 1) )
def fX5_livingOn (σ : St) (p1 : Int32) (p2 : Int32) (p3 : Int32) : Int32 :=
  flX5_livingOn_3 σ p1 p2 p3 ((σ.2.1 1).toNatClampNeg) 0 
set_option maxHeartbeats 4000000 in
set_option maxRecDepth 100000 in
theorem c_X5_livingOn (l : Launch) (dC : Nat → ClassId) (dI : Nat → Nat → Nat) (cI cJ : ClassId) (q : Nat → Nat) (σ : St) (p1 : Int32) (p2 : Int32) (p3 : Int32) (hI : IB σ) : Met l yX5_livingOn (.code yX5_livingOn cX5_livingOn 5 (some .int) :: tb) { frames := 3, cells := 0, slots := 0, locals := 67 } (Pu (dC, dI) (tyC cI cJ) (wT cI cJ q σ) [.ref (q 3), .int p1, .int p2, .int p3]) (vp_Si (fun r => r = fX5_livingOn σ p1 p2 p3)) 0 0 (fun _ => False) := by
  refine Met.ofW (cc := cX5_livingOn) (maxL := 5) (ret := (some .int)) (by decide) rfl ?_
  intro p e s m args below meth c s₁ B hml hv
  obtain ⟨rfl, hP, hK⟩ := hv
  have hx := B.exec
  have hb := B.bytes
  have hr := B.returns
  have hts0 := atoms_spec (ws := .code yX5_livingOn cX5_livingOn 5 (some .int) :: tb) B.pre
  have hts : ∀ w ∈ tb, w.before _ s = true := fun w hw => hts0 w (List.mem_cons_of_mem _ hw)
  have hown : s.vm.findClass RX5 = some m.cls := findClass_of_methodNamed B.named
  have hlocks := B.notSynchronized
  have hl := lv_entry ([.ref (q 3), .int p1, .int p2, .int p3]) (n := 5) (Nat.le_of_ble_eq_true rfl)
  rw [lg_entry_eq]
  generalize (lg_sl ([.ref (q 3), .int p1, .int p2, .int p3]) ++ List.replicate (5 - (lg_sl ([.ref (q 3), .int p1, .int p2, .int p3])).length) Slot.unset).toArray = ls at hl ⊢
  have hl : lv_has ls 5 [(0, .ref (q 3)), (1, .int p1), (2, .int p2), (3, .int p3)] := hl
  refine lv_iconst (v := 0) hx hb dX5_livingOn_0 (by decide) ?_
  refine lv_istore (lv' := [(4, .int 0), (0, .ref (q 3)), (1, .int p1), (2, .int p2), (3, .int p3)]) hx hb dX5_livingOn_1 hl (by decide) rfl (fun ls hl => ?_)
  have hz : szI (σ.2.1 1) 40 := hI.1
  have hz2 := hz.2
  have loop_3 : ∀ (k i : Nat), i + k = (σ.2.1 1).toNatClampNeg → fX5_livingOn σ p1 p2 p3 = flX5_livingOn_3 σ p1 p2 p3 k i  → ∀ (ls : Array Slot), lv_has ls 5 [(0, .ref (q 3)), (1, .int p1), (2, .int p2), (3, .int p3), (4, .int (nI i))] → W p l e (headSpec (.code yX5_livingOn cX5_livingOn 5 (some .int) :: tb) { frames := 3, cells := 0, slots := 0, locals := 67 }).room s m (List.toArray [.ref (q 3), .int p1, .int p2, .int p3]) below meth c s.heap [] 0 0 (MQ below (vp_Si (fun r => r = fX5_livingOn σ p1 p2 p3)) (List.toArray [.ref (q 3), .int p1, .int p2, .int p3]) s 0 0 (fun _ => False)) (F0 m 3 ls []) := by
    intro k
    induction k with
    | zero =>
      intro i  hik hE ls hl
      refine lv_iload hx hb dX5_livingOn_3 (lv_at hl 4 rfl) ?_
      refine lv_aload_n hx hb dX5_livingOn_5 rfl (lv_at hl 0 rfl) ?_
      refine va_get (D := (dC, dI)) (ci := 5) (v := .int (σ.2.1 1)) (C := RX5) (T := TX5) (N := 10) hx hb hts inX5 hown hK hP 3 rfl rfl 9 (by decide) (hts _ fl_X5_39) (fun _ h9 => h9) rfl dX5_livingOn_6 ?_
      refine lv_icmp_ge (tgt := 43) hx hb dX5_livingOn_9 (by decide) (fun c_9 => ?_) (fun c_9 => ?_)
      · refine lv_iconst (v := (-1)) hx hb dX5_livingOn_43 (by decide) ?_
        exact W.iret (v := (-1)) hx hb hr (fun t ht hW => ⟨_, rfl, (by rw [hE, flX5_livingOn_3]), ht⟩) (fun _ h => absurd h List.not_mem_nil) dX5_livingOn_44
      · exact absurd (by rw [hz.1]; exact nI_le (by omega) (by omega)) c_9
    | succ k ih =>
      intro i  hik hE ls hl
      refine lv_iload hx hb dX5_livingOn_3 (lv_at hl 4 rfl) ?_
      refine lv_aload_n hx hb dX5_livingOn_5 rfl (lv_at hl 0 rfl) ?_
      refine va_get (D := (dC, dI)) (ci := 5) (v := .int (σ.2.1 1)) (C := RX5) (T := TX5) (N := 10) hx hb hts inX5 hown hK hP 3 rfl rfl 9 (by decide) (hts _ fl_X5_39) (fun _ h9 => h9) rfl dX5_livingOn_6 ?_
      refine lv_icmp_ge (tgt := 43) hx hb dX5_livingOn_9 (by decide) (fun c_9 => ?_) (fun c_9 => ?_)
      · exact absurd c_9 (by rw [hz.1]; exact nI_ge (by omega) (by omega))
      · refine lv_aload_n hx hb dX5_livingOn_12 rfl (lv_at hl 0 rfl) ?_
        refine va_get (D := (dC, dI)) (ci := 5) (v := .ref (q 4)) (C := RX5) (T := TX5) (N := 10) hx hb hts inX5 hown hK hP 3 rfl rfl 0 (by decide) (hts _ fl_X5_9) (fun _ h9 => h9) rfl dX5_livingOn_13 ?_
        refine lv_iload hx hb dX5_livingOn_16 (lv_at hl 4 rfl) ?_
        refine xa_ild hx hb hK hP 4 0 rfl rfl (by omega) (by decide) dX5_livingOn_18 ?_
        refine lv_iload_n hx hb dX5_livingOn_19 rfl (lv_at hl 1 rfl) ?_
        refine lv_icmp_ne (tgt := 37) hx hb dX5_livingOn_20 (by decide) (fun c_20 => ?_) (fun c_20 => ?_)
        · refine lv_iinc (v := nI (i + 1)) (lv' := [(4, .int (nI (i + 1))), (0, .ref (q 3)), (1, .int p1), (2, .int p2), (3, .int p3)]) hx hb dX5_livingOn_37 hl (k := 4) rfl (nI_1 i) (by decide) rfl (fun ls hl => ?_)
          refine lv_goto (tgt := 3) hx hb dX5_livingOn_40 (by decide) ?_
          exact ih (i + 1)  (by omega) (by rw [hE, flX5_livingOn_3, if_neg c_20]) ls (lv_sub hl [1, 2, 3, 4, 0] rfl)
        · refine lv_aload_n hx hb dX5_livingOn_23 rfl (lv_at hl 0 rfl) ?_
          refine lv_iload hx hb dX5_livingOn_24 (lv_at hl 4 rfl) ?_
          refine lv_iload_n hx hb dX5_livingOn_26 rfl (lv_at hl 2 rfl) ?_
          refine lv_iload_n hx hb dX5_livingOn_27 rfl (lv_at hl 3 rfl) ?_
          refine xc_i (va_runV (As := [.int (nI i), .int p2, .int p3]) (rest := []) ⟨hx, hb, hml, hown, hts⟩ (c_X5_livesOn l dC dI cI cJ q σ (nI i) p2 p3 (by assumption)) (cwV 3 hts (gV ml_X5_62 im_X5_livesOn se_X5_livesOn in_X5 co_X5_livesOn) rfl rfl rfl (by decide +kernel) ⟨Nat.le_of_ble_eq_true rfl, Nat.le_of_ble_eq_true rfl⟩) (preV hK hP (pos := 3) (ci := 5) rfl rfl) rfl rfl hl.1 rfl (lv_room (Nat.le_of_ble_eq_true rfl)) dX5_livingOn_28 ⟨Nat.zero_le _, Nat.zero_le _⟩) ?_
          refine lv_if_eq (tgt := 37) hx hb dX5_livingOn_31 (by decide) (fun c_31 => ?_) (fun c_31 => ?_)
          · refine lv_iinc (v := nI (i + 1)) (lv' := [(4, .int (nI (i + 1))), (0, .ref (q 3)), (1, .int p1), (2, .int p2), (3, .int p3)]) hx hb dX5_livingOn_37 hl (k := 4) rfl (nI_1 i) (by decide) rfl (fun ls hl => ?_)
            refine lv_goto (tgt := 3) hx hb dX5_livingOn_40 (by decide) ?_
            exact ih (i + 1)  (by omega) (by rw [hE, flX5_livingOn_3, if_pos c_20, if_pos c_31]) ls (lv_sub hl [1, 2, 3, 4, 0] rfl)
          · refine lv_iload hx hb dX5_livingOn_34 (lv_at hl 4 rfl) ?_
            exact W.iret (v := nI i) hx hb hr (fun t ht hW => ⟨_, rfl, (by rw [hE, flX5_livingOn_3, if_pos c_20, if_neg c_31]), ht⟩) (fun _ h => absurd h List.not_mem_nil) dX5_livingOn_36
  exact loop_3 ((σ.2.1 1).toNatClampNeg) 0  (by rw [Nat.zero_add]) (by rw [fX5_livingOn]) ls (lv_sub hl [1, 2, 3, 4, 0] rfl)

def fX5_firstShareOf (σ : St) (p1 : Int32) (p2 : Int32) : Int32 :=
  (if 1 ≤ (σ.1 8 p1.toNatClampNeg) then (p2 * (σ.1 7 p1.toNatClampNeg)) / (σ.1 8 p1.toNatClampNeg) else 0)
set_option maxHeartbeats 4000000 in
set_option maxRecDepth 100000 in
theorem c_X5_firstShareOf (l : Launch) (dC : Nat → ClassId) (dI : Nat → Nat → Nat) (cI cJ : ClassId) (q : Nat → Nat) (σ : St) (p1 : Int32) (p2 : Int32) (hT : vp_in p1 40) : Met l yX5_firstShareOf (.code yX5_firstShareOf cX5_firstShareOf 4 (some .int) :: tb) { frames := 0, cells := 0, slots := 0, locals := 0 } (Pu (dC, dI) (tyC cI cJ) (wT cI cJ q σ) [.ref (q 3), .int p1, .int p2]) (vp_Si (fun r => r = fX5_firstShareOf σ p1 p2)) 0 0 (fun _ => False) := by
  refine Met.ofW (cc := cX5_firstShareOf) (maxL := 4) (ret := (some .int)) (by decide) rfl ?_
  intro p e s m args below meth c s₁ B hml hv
  obtain ⟨rfl, hP, hK⟩ := hv
  have hx := B.exec
  have hb := B.bytes
  have hr := B.returns
  have hts0 := atoms_spec (ws := .code yX5_firstShareOf cX5_firstShareOf 4 (some .int) :: tb) B.pre
  have hts : ∀ w ∈ tb, w.before _ s = true := fun w hw => hts0 w (List.mem_cons_of_mem _ hw)
  have hown : s.vm.findClass RX5 = some m.cls := findClass_of_methodNamed B.named
  have hlocks := B.notSynchronized
  have hl := lv_entry ([.ref (q 3), .int p1, .int p2]) (n := 4) (Nat.le_of_ble_eq_true rfl)
  rw [lg_entry_eq]
  generalize (lg_sl ([.ref (q 3), .int p1, .int p2]) ++ List.replicate (4 - (lg_sl ([.ref (q 3), .int p1, .int p2])).length) Slot.unset).toArray = ls at hl ⊢
  have hl : lv_has ls 4 [(0, .ref (q 3)), (1, .int p1), (2, .int p2)] := hl
  refine lv_aload_n hx hb dX5_firstShareOf_0 rfl (lv_at hl 0 rfl) ?_
  refine va_get (D := (dC, dI)) (ci := 5) (v := .ref (q 12)) (C := RX5) (T := TX5) (N := 10) hx hb hts inX5 hown hK hP 3 rfl rfl 8 (by decide) (hts _ fl_X5_36) (fun _ h9 => h9) rfl dX5_firstShareOf_1 ?_
  refine lv_iload_n hx hb dX5_firstShareOf_4 rfl (lv_at hl 1 rfl) ?_
  refine va_iald hx hb hK hP 12 0 rfl rfl (by assumption) dX5_firstShareOf_5 ?_
  refine lv_istore_n (lv' := [(3, .int (σ.1 8 p1.toNatClampNeg)), (0, .ref (q 3)), (1, .int p1), (2, .int p2)]) hx hb dX5_firstShareOf_6 rfl hl (by decide) rfl (fun ls hl => ?_)
  refine lv_iload_n hx hb dX5_firstShareOf_7 rfl (lv_at hl 0 rfl) ?_
  refine lv_iconst (v := 1) hx hb dX5_firstShareOf_8 (by decide) ?_
  refine lv_icmp_ge (tgt := 16) hx hb dX5_firstShareOf_9 (by decide) (fun c_9 => ?_) (fun c_9 => ?_)
  · refine lv_iload_n hx hb dX5_firstShareOf_16 rfl (lv_at hl 3 rfl) ?_
    refine lv_aload_n hx hb dX5_firstShareOf_17 rfl (lv_at hl 1 rfl) ?_
    refine va_get (D := (dC, dI)) (ci := 5) (v := .ref (q 11)) (C := RX5) (T := TX5) (N := 10) hx hb hts inX5 hown hK hP 3 rfl rfl 7 (by decide) (hts _ fl_X5_33) (fun _ h9 => h9) rfl dX5_firstShareOf_18 ?_
    refine lv_iload_n hx hb dX5_firstShareOf_21 rfl (lv_at hl 2 rfl) ?_
    refine va_iald hx hb hK hP 11 0 rfl rfl (by assumption) dX5_firstShareOf_22 ?_
    refine lv_imul hx hb dX5_firstShareOf_23 ?_
    refine lv_iload_n hx hb dX5_firstShareOf_24 rfl (lv_at hl 0 rfl) ?_
    refine lv_idiv hx hb dX5_firstShareOf_25 (ge1_ne c_9) ?_
    exact W.iret (v := (p2 * (σ.1 7 p1.toNatClampNeg)) / (σ.1 8 p1.toNatClampNeg)) hx hb hr (fun t ht hW => ⟨_, rfl, (by rw [fX5_firstShareOf, if_pos c_9]), ht⟩) (fun _ h => absurd h List.not_mem_nil) dX5_firstShareOf_26
  · refine lv_iconst (v := 0) hx hb dX5_firstShareOf_12 (by decide) ?_
    refine lv_goto (tgt := 26) hx hb dX5_firstShareOf_13 (by decide) ?_
    exact W.iret (v := 0) hx hb hr (fun t ht hW => ⟨_, rfl, (by rw [fX5_firstShareOf, if_neg c_9]), ht⟩) (fun _ h => absurd h List.not_mem_nil) dX5_firstShareOf_26
