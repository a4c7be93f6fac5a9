def fX6_told (σ : St) (p1 : Int32) (p2 : Int32) (p3 : Int32) (p4 : Int32) : Int32 :=
  (if (fX6_isMark σ p2) = 0 then (-1) else (if (fX6_isDay σ p3) = 0 then (-1) else (if (fX6_isDay σ p4) = 0 then (-1) else (if (fX5_isKnown σ p1 p4) = 0 then (-1) else fX4_valueOn σ p1 p2 p3 p4))))
set_option maxHeartbeats 4000000 in
set_option maxRecDepth 100000 in
theorem c_X6_told (l : Launch) (dC : Nat → ClassId) (dI : Nat → Nat → Nat) (cI cJ : ClassId) (q : Nat → Nat) (σ : St) (p1 : Int32) (p2 : Int32) (p3 : Int32) (p4 : Int32) (hI : IB σ) : Met l yX6_told (.code yX6_told cX6_told 5 (some .int) :: tb) { frames := 3, cells := 0, slots := 0, locals := 70 } (Pu (dC, dI) (tyC cI cJ) (wT cI cJ q σ) [.ref (q 0), .int p1, .int p2, .int p3, .int p4]) (vp_Si (fun r => r = fX6_told σ p1 p2 p3 p4)) 0 0 (fun _ => False) := by
  refine Met.ofW (cc := cX6_told) (maxL := 5) (ret := (some .int)) (by decide) rfl ?_
  intro p e s m args below meth c s₁ B hml hv
  obtain ⟨rfl, hP, hK⟩ := hv
  have hx := B.exec
  have hb := B.bytes
  have hr := B.returns
  have hts0 := atoms_spec (ws := .code yX6_told cX6_told 5 (some .int) :: tb) B.pre
  have hts : ∀ w ∈ tb, w.before _ s = true := fun w hw => hts0 w (List.mem_cons_of_mem _ hw)
  have hown : s.vm.findClass RX6 = some m.cls := findClass_of_methodNamed B.named
  have hlocks := B.notSynchronized
  have hl := lv_entry ([.ref (q 0), .int p1, .int p2, .int p3, .int p4]) (n := 5) (Nat.le_of_ble_eq_true rfl)
  rw [lg_entry_eq]
  generalize (lg_sl ([.ref (q 0), .int p1, .int p2, .int p3, .int p4]) ++ List.replicate (5 - (lg_sl ([.ref (q 0), .int p1, .int p2, .int p3, .int p4])).length) Slot.unset).toArray = ls at hl ⊢
  have hl : lv_has ls 5 [(0, .ref (q 0)), (1, .int p1), (2, .int p2), (3, .int p3), (4, .int p4)] := hl
  refine lv_iload_n hx hb dX6_told_0 rfl (lv_at hl 2 rfl) ?_
  refine xc_i (va_runS (As := [.int p2]) (rest := []) ⟨hx, hb, hml, hown, hts⟩ (c_X6_isMark l dC dI cI cJ q σ p2) (va_cwS 1 hts (gS ml_X6_89 st_X6_isMark in_X6 co_X6_isMark) rfl rfl rfl (by decide +kernel) ⟨Nat.le_of_ble_eq_true rfl, Nat.le_of_ble_eq_true rfl⟩) (preS hK hP) rfl rfl hl.1 rfl (lv_room (Nat.le_of_ble_eq_true rfl)) dX6_told_1 ⟨Nat.zero_le _, Nat.zero_le _⟩) ?_
  refine lv_if_eq (tgt := 35) hx hb dX6_told_4 (by decide) (fun c_4 => ?_) (fun c_4 => ?_)
  · refine lv_iconst (v := (-1)) hx hb dX6_told_35 (by decide) ?_
    exact W.iret (v := (-1)) hx hb hr (fun t ht hW => ⟨_, rfl, (by rw [fX6_told, if_pos c_4]), ht⟩) (fun _ h => absurd h List.not_mem_nil) dX6_told_36
  · refine lv_iload_n hx hb dX6_told_7 rfl (lv_at hl 3 rfl) ?_
    refine xc_i (va_runS (As := [.int p3]) (rest := []) ⟨hx, hb, hml, hown, hts⟩ (c_X6_isDay l dC dI cI cJ q σ p3) (va_cwS 1 hts (gS ml_X6_56 st_X6_isDay in_X6 co_X6_isDay) rfl rfl rfl (by decide +kernel) ⟨Nat.le_of_ble_eq_true rfl, Nat.le_of_ble_eq_true rfl⟩) (preS hK hP) rfl rfl hl.1 rfl (lv_room (Nat.le_of_ble_eq_true rfl)) dX6_told_8 ⟨Nat.zero_le _, Nat.zero_le _⟩) ?_
    refine lv_if_eq (tgt := 35) hx hb dX6_told_11 (by decide) (fun c_11 => ?_) (fun c_11 => ?_)
    · refine lv_iconst (v := (-1)) hx hb dX6_told_35 (by decide) ?_
      exact W.iret (v := (-1)) hx hb hr (fun t ht hW => ⟨_, rfl, (by rw [fX6_told, if_neg c_4, if_pos c_11]), ht⟩) (fun _ h => absurd h List.not_mem_nil) dX6_told_36
    · refine lv_iload hx hb dX6_told_14 (lv_at hl 4 rfl) ?_
      refine xc_i (va_runS (As := [.int p4]) (rest := []) ⟨hx, hb, hml, hown, hts⟩ (c_X6_isDay l dC dI cI cJ q σ p4) (va_cwS 1 hts (gS ml_X6_56 st_X6_isDay in_X6 co_X6_isDay) rfl rfl rfl (by decide +kernel) ⟨Nat.le_of_ble_eq_true rfl, Nat.le_of_ble_eq_true rfl⟩) (preS hK hP) rfl rfl hl.1 rfl (lv_room (Nat.le_of_ble_eq_true rfl)) dX6_told_16 ⟨Nat.zero_le _, Nat.zero_le _⟩) ?_
      refine lv_if_eq (tgt := 35) hx hb dX6_told_19 (by decide) (fun c_19 => ?_) (fun c_19 => ?_)
      · refine lv_iconst (v := (-1)) hx hb dX6_told_35 (by decide) ?_
        exact W.iret (v := (-1)) hx hb hr (fun t ht hW => ⟨_, rfl, (by rw [fX6_told, if_neg c_4, if_neg c_11, if_pos c_19]), ht⟩) (fun _ h => absurd h List.not_mem_nil) dX6_told_36
      · refine lv_aload_n hx hb dX6_told_22 rfl (lv_at hl 0 rfl) ?_
        refine va_get (D := (dC, dI)) (ci := 6) (v := .ref (q 3)) (C := RX6) (T := TX6) (N := 6) hx hb hts inX6 hown hK hP 0 rfl rfl 1 (by decide) (hts _ fl_X6_19) (fun _ h9 => h9) rfl dX6_told_23 ?_
        refine lv_iload_n hx hb dX6_told_26 rfl (lv_at hl 1 rfl) ?_
        refine lv_iload hx hb dX6_told_27 (lv_at hl 4 rfl) ?_
        refine xc_i (va_runV (As := [.int p1, .int p4]) (rest := []) ⟨hx, hb, hml, hown, hts⟩ (c_X5_isKnown l dC dI cI cJ q σ p1 p4 (by assumption)) (cwV 2 hts (gV ml_X6_120 im_X5_isKnown se_X5_isKnown in_X5 co_X5_isKnown) rfl rfl rfl (by decide +kernel) ⟨Nat.le_of_ble_eq_true rfl, Nat.le_of_ble_eq_true rfl⟩) (preV hK hP (pos := 3) (ci := 5) rfl rfl) rfl rfl hl.1 rfl (lv_room (Nat.le_of_ble_eq_true rfl)) dX6_told_29 ⟨Nat.zero_le _, Nat.zero_le _⟩) ?_
        refine lv_if_ne (tgt := 37) hx hb dX6_told_32 (by decide) (fun c_32 => ?_) (fun c_32 => ?_)
        · refine lv_aload_n hx hb dX6_told_37 rfl (lv_at hl 0 rfl) ?_
          refine va_get (D := (dC, dI)) (ci := 6) (v := .ref (q 13)) (C := RX6) (T := TX6) (N := 6) hx hb hts inX6 hown hK hP 0 rfl rfl 2 (by decide) (hts _ fl_X6_28) (fun _ h9 => h9) rfl dX6_told_38 ?_
          refine lv_iload_n hx hb dX6_told_41 rfl (lv_at hl 1 rfl) ?_
          refine lv_iload_n hx hb dX6_told_42 rfl (lv_at hl 2 rfl) ?_
          refine lv_iload_n hx hb dX6_told_43 rfl (lv_at hl 3 rfl) ?_
          refine lv_iload hx hb dX6_told_44 (lv_at hl 4 rfl) ?_
          refine xc_i (va_runV (As := [.int p1, .int p2, .int p3, .int p4]) (rest := []) ⟨hx, hb, hml, hown, hts⟩ (c_X4_valueOn l dC dI cI cJ q σ p1 p2 p3 p4 (by assumption)) (cwV 4 hts (gV ml_X6_123 im_X4_valueOn se_X4_valueOn in_X4 co_X4_valueOn) rfl rfl rfl (by decide +kernel) ⟨Nat.le_of_ble_eq_true rfl, Nat.le_of_ble_eq_true rfl⟩) (preV hK hP (pos := 13) (ci := 4) rfl rfl) rfl rfl hl.1 rfl (lv_room (Nat.le_of_ble_eq_true rfl)) dX6_told_46 ⟨Nat.zero_le _, Nat.zero_le _⟩) ?_
          exact W.iret (v := fX4_valueOn σ p1 p2 p3 p4) hx hb hr (fun t ht hW => ⟨_, rfl, (by rw [fX6_told, if_neg c_4, if_neg c_11, if_neg c_19, if_neg c_32]), ht⟩) (fun _ h => absurd h List.not_mem_nil) dX6_told_49
        · refine lv_iconst (v := (-1)) hx hb dX6_told_35 (by decide) ?_
          exact W.iret (v := (-1)) hx hb hr (fun t ht hW => ⟨_, rfl, (by rw [fX6_told, if_neg c_4, if_neg c_11, if_neg c_19, if_pos c_32]), ht⟩) (fun _ h => absurd h List.not_mem_nil) dX6_told_36

def fX6_thing (σ : St) (p1 : Int32) (p2 : Int32) (p3 : Int32) : Int32 :=
  (if (fX6_isDay σ p2) = 0 then (-1) else (if (fX5_isKnown σ p1 p2) = 0 then (-1) else (if p3 = 0 then σ.1 0 p1.toNatClampNeg else (if p3 = 1 then σ.1 1 p1.toNatClampNeg else (if p3 = 2 then fX5_endOf σ p1 p2 else (if p3 = 3 then fX5_endingOf σ p1 p2 else (if p3 = 4 then fX5_heirOf σ p1 p2 else (if p3 = 5 then fX4_timesToldOver σ p1 p2 else (-1)))))))))
set_option maxHeartbeats 4000000 in
set_option maxRecDepth 100000 in
theorem c_X6_thing (l : Launch) (dC : Nat → ClassId) (dI : Nat → Nat → Nat) (cI cJ : ClassId) (q : Nat → Nat) (σ : St) (p1 : Int32) (p2 : Int32) (p3 : Int32) (hI : IB σ) : Met l yX6_thing (.code yX6_thing cX6_thing 4 (some .int) :: tb) { frames := 3, cells := 0, slots := 0, locals := 69 } (Pu (dC, dI) (tyC cI cJ) (wT cI cJ q σ) [.ref (q 0), .int p1, .int p2, .int p3]) (vp_Si (fun r => r = fX6_thing σ p1 p2 p3)) 0 0 (fun _ => False) := by
  refine Met.ofW (cc := cX6_thing) (maxL := 4) (ret := (some .int)) (by decide) rfl ?_
  intro p e s m args below meth c s₁ B hml hv
  obtain ⟨rfl, hP, hK⟩ := hv
  have hx := B.exec
  have hb := B.bytes
  have hr := B.returns
  have hts0 := atoms_spec (ws := .code yX6_thing cX6_thing 4 (some .int) :: tb) B.pre
  have hts : ∀ w ∈ tb, w.before _ s = true := fun w hw => hts0 w (List.mem_cons_of_mem _ hw)
  have hown : s.vm.findClass RX6 = some m.cls := findClass_of_methodNamed B.named
  have hlocks := B.notSynchronized
  have hl := lv_entry ([.ref (q 0), .int p1, .int p2, .int p3]) (n := 4) (Nat.le_of_ble_eq_true rfl)
  rw [lg_entry_eq]
  generalize (lg_sl ([.ref (q 0), .int p1, .int p2, .int p3]) ++ List.replicate (4 - (lg_sl ([.ref (q 0), .int p1, .int p2, .int p3])).length) Slot.unset).toArray = ls at hl ⊢
  have hl : lv_has ls 4 [(0, .ref (q 0)), (1, .int p1), (2, .int p2), (3, .int p3)] := hl
  refine lv_iload_n hx hb dX6_thing_0 rfl (lv_at hl 2 rfl) ?_
  refine xc_i (va_runS (As := [.int p2]) (rest := []) ⟨hx, hb, hml, hown, hts⟩ (c_X6_isDay l dC dI cI cJ q σ p2) (va_cwS 1 hts (gS ml_X6_56 st_X6_isDay in_X6 co_X6_isDay) rfl rfl rfl (by decide +kernel) ⟨Nat.le_of_ble_eq_true rfl, Nat.le_of_ble_eq_true rfl⟩) (preS hK hP) rfl rfl hl.1 rfl (lv_room (Nat.le_of_ble_eq_true rfl)) dX6_thing_1 ⟨Nat.zero_le _, Nat.zero_le _⟩) ?_
  refine lv_if_eq (tgt := 19) hx hb dX6_thing_4 (by decide) (fun c_4 => ?_) (fun c_4 => ?_)
  · refine lv_iconst (v := (-1)) hx hb dX6_thing_19 (by decide) ?_
    exact W.iret (v := (-1)) hx hb hr (fun t ht hW => ⟨_, rfl, (by rw [fX6_thing, if_pos c_4]), ht⟩) (fun _ h => absurd h List.not_mem_nil) dX6_thing_20
  · refine lv_aload_n hx hb dX6_thing_7 rfl (lv_at hl 0 rfl) ?_
    refine va_get (D := (dC, dI)) (ci := 6) (v := .ref (q 3)) (C := RX6) (T := TX6) (N := 6) hx hb hts inX6 hown hK hP 0 rfl rfl 1 (by decide) (hts _ fl_X6_19) (fun _ h9 => h9) rfl dX6_thing_8 ?_
    refine lv_iload_n hx hb dX6_thing_11 rfl (lv_at hl 1 rfl) ?_
    refine lv_iload_n hx hb dX6_thing_12 rfl (lv_at hl 2 rfl) ?_
    refine xc_i (va_runV (As := [.int p1, .int p2]) (rest := []) ⟨hx, hb, hml, hown, hts⟩ (c_X5_isKnown l dC dI cI cJ q σ p1 p2 (by assumption)) (cwV 2 hts (gV ml_X6_120 im_X5_isKnown se_X5_isKnown in_X5 co_X5_isKnown) rfl rfl rfl (by decide +kernel) ⟨Nat.le_of_ble_eq_true rfl, Nat.le_of_ble_eq_true rfl⟩) (preV hK hP (pos := 3) (ci := 5) rfl rfl) rfl rfl hl.1 rfl (lv_room (Nat.le_of_ble_eq_true rfl)) dX6_thing_13 ⟨Nat.zero_le _, Nat.zero_le _⟩) ?_
    refine lv_if_ne (tgt := 21) hx hb dX6_thing_16 (by decide) (fun c_16 => ?_) (fun c_16 => ?_)
    · refine lv_iload_n hx hb dX6_thing_21 rfl (lv_at hl 3 rfl) ?_
      by_cases c_22_0 : p3 = 0
      · refine xs_in (tgt := 60) hx hb 0 c_22_0 dX6_thing_22 (by decide) (by decide) rfl (by decide) ?_
        refine lv_aload_n hx hb dX6_thing_60 rfl (lv_at hl 0 rfl) ?_
        refine va_get (D := (dC, dI)) (ci := 6) (v := .ref (q 3)) (C := RX6) (T := TX6) (N := 6) hx hb hts inX6 hown hK hP 0 rfl rfl 1 (by decide) (hts _ fl_X6_19) (fun _ h9 => h9) rfl dX6_thing_61 ?_
        refine lv_iload_n hx hb dX6_thing_64 rfl (lv_at hl 1 rfl) ?_
        refine xc_i (va_runV (As := [.int p1]) (rest := []) ⟨hx, hb, hml, hown, hts⟩ (c_X5_codeOf l dC dI cI cJ q σ p1 (tknown_in hI c_16)) (cwV 1 hts (gV ml_X6_126 im_X5_codeOf se_X5_codeOf in_X5 co_X5_codeOf) rfl rfl rfl (by decide +kernel) ⟨Nat.le_of_ble_eq_true rfl, Nat.le_of_ble_eq_true rfl⟩) (preV hK hP (pos := 3) (ci := 5) rfl rfl) rfl rfl hl.1 rfl (lv_room (Nat.le_of_ble_eq_true rfl)) dX6_thing_65 ⟨Nat.zero_le _, Nat.zero_le _⟩) ?_
        exact W.iret (v := σ.1 0 p1.toNatClampNeg) hx hb hr (fun t ht hW => ⟨_, rfl, (by rw [fX6_thing, if_neg c_4, if_neg c_16, if_pos c_22_0]), ht⟩) (fun _ h => absurd h List.not_mem_nil) dX6_thing_68
      by_cases c_22_1 : p3 = 1
      · refine xs_in (tgt := 69) hx hb 1 c_22_1 dX6_thing_22 (by decide) (by decide) rfl (by decide) ?_
        refine lv_aload_n hx hb dX6_thing_69 rfl (lv_at hl 0 rfl) ?_
        refine va_get (D := (dC, dI)) (ci := 6) (v := .ref (q 3)) (C := RX6) (T := TX6) (N := 6) hx hb hts inX6 hown hK hP 0 rfl rfl 1 (by decide) (hts _ fl_X6_19) (fun _ h9 => h9) rfl dX6_thing_70 ?_
        refine lv_iload_n hx hb dX6_thing_73 rfl (lv_at hl 1 rfl) ?_
        refine xc_i (va_runV (As := [.int p1]) (rest := []) ⟨hx, hb, hml, hown, hts⟩ (c_X5_birthOf l dC dI cI cJ q σ p1 (tknown_in hI c_16)) (cwV 1 hts (gV ml_X6_129 im_X5_birthOf se_X5_birthOf in_X5 co_X5_birthOf) rfl rfl rfl (by decide +kernel) ⟨Nat.le_of_ble_eq_true rfl, Nat.le_of_ble_eq_true rfl⟩) (preV hK hP (pos := 3) (ci := 5) rfl rfl) rfl rfl hl.1 rfl (lv_room (Nat.le_of_ble_eq_true rfl)) dX6_thing_74 ⟨Nat.zero_le _, Nat.zero_le _⟩) ?_
        exact W.iret (v := σ.1 1 p1.toNatClampNeg) hx hb hr (fun t ht hW => ⟨_, rfl, (by rw [fX6_thing, if_neg c_4, if_neg c_16, if_neg c_22_0, if_pos c_22_1]), ht⟩) (fun _ h => absurd h List.not_mem_nil) dX6_thing_77
      by_cases c_22_2 : p3 = 2
      · refine xs_in (tgt := 78) hx hb 2 c_22_2 dX6_thing_22 (by decide) (by decide) rfl (by decide) ?_
        refine lv_aload_n hx hb dX6_thing_78 rfl (lv_at hl 0 rfl) ?_
        refine va_get (D := (dC, dI)) (ci := 6) (v := .ref (q 3)) (C := RX6) (T := TX6) (N := 6) hx hb hts inX6 hown hK hP 0 rfl rfl 1 (by decide) (hts _ fl_X6_19) (fun _ h9 => h9) rfl dX6_thing_79 ?_
        refine lv_iload_n hx hb dX6_thing_82 rfl (lv_at hl 1 rfl) ?_
        refine lv_iload_n hx hb dX6_thing_83 rfl (lv_at hl 2 rfl) ?_
        refine xc_i (va_runV (As := [.int p1, .int p2]) (rest := []) ⟨hx, hb, hml, hown, hts⟩ (c_X5_endOf l dC dI cI cJ q σ p1 p2 (tknown_in hI c_16)) (cwV 2 hts (gV ml_X6_132 im_X5_endOf se_X5_endOf in_X5 co_X5_endOf) rfl rfl rfl (by decide +kernel) ⟨Nat.le_of_ble_eq_true rfl, Nat.le_of_ble_eq_true rfl⟩) (preV hK hP (pos := 3) (ci := 5) rfl rfl) rfl rfl hl.1 rfl (lv_room (Nat.le_of_ble_eq_true rfl)) dX6_thing_84 ⟨Nat.zero_le _, Nat.zero_le _⟩) ?_
        exact W.iret (v := fX5_endOf σ p1 p2) hx hb hr (fun t ht hW => ⟨_, rfl, (by rw [fX6_thing, if_neg c_4, if_neg c_16, if_neg c_22_0, if_neg c_22_1, if_pos c_22_2]), ht⟩) (fun _ h => absurd h List.not_mem_nil) dX6_thing_87
      by_cases c_22_3 : p3 = 3
      · refine xs_in (tgt := 88) hx hb 3 c_22_3 dX6_thing_22 (by decide) (by decide) rfl (by decide) ?_
        refine lv_aload_n hx hb dX6_thing_88 rfl (lv_at hl 0 rfl) ?_
        refine va_get (D := (dC, dI)) (ci := 6) (v := .ref (q 3)) (C := RX6) (T := TX6) (N := 6) hx hb hts inX6 hown hK hP 0 rfl rfl 1 (by decide) (hts _ fl_X6_19) (fun _ h9 => h9) rfl dX6_thing_89 ?_
        refine lv_iload_n hx hb dX6_thing_92 rfl (lv_at hl 1 rfl) ?_
        refine lv_iload_n hx hb dX6_thing_93 rfl (lv_at hl 2 rfl) ?_
        refine xc_i (va_runV (As := [.int p1, .int p2]) (rest := []) ⟨hx, hb, hml, hown, hts⟩ (c_X5_endingOf l dC dI cI cJ q σ p1 p2 (tknown_in hI c_16)) (cwV 2 hts (gV ml_X6_136 im_X5_endingOf se_X5_endingOf in_X5 co_X5_endingOf) rfl rfl rfl (by decide +kernel) ⟨Nat.le_of_ble_eq_true rfl, Nat.le_of_ble_eq_true rfl⟩) (preV hK hP (pos := 3) (ci := 5) rfl rfl) rfl rfl hl.1 rfl (lv_room (Nat.le_of_ble_eq_true rfl)) dX6_thing_94 ⟨Nat.zero_le _, Nat.zero_le _⟩) ?_
        exact W.iret (v := fX5_endingOf σ p1 p2) hx hb hr (fun t ht hW => ⟨_, rfl, (by rw [fX6_thing, if_neg c_4, if_neg c_16, if_neg c_22_0, if_neg c_22_1, if_neg c_22_2, if_pos c_22_3]), ht⟩) (fun _ h => absurd h List.not_mem_nil) dX6_thing_97
      by_cases c_22_4 : p3 = 4
      · refine xs_in (tgt := 98) hx hb 4 c_22_4 dX6_thing_22 (by decide) (by decide) rfl (by decide) ?_
        refine lv_aload_n hx hb dX6_thing_98 rfl (lv_at hl 0 rfl) ?_
        refine va_get (D := (dC, dI)) (ci := 6) (v := .ref (q 3)) (C := RX6) (T := TX6) (N := 6) hx hb hts inX6 hown hK hP 0 rfl rfl 1 (by decide) (hts _ fl_X6_19) (fun _ h9 => h9) rfl dX6_thing_99 ?_
        refine lv_iload_n hx hb dX6_thing_102 rfl (lv_at hl 1 rfl) ?_
        refine lv_iload_n hx hb dX6_thing_103 rfl (lv_at hl 2 rfl) ?_
        refine xc_i (va_runV (As := [.int p1, .int p2]) (rest := []) ⟨hx, hb, hml, hown, hts⟩ (c_X5_heirOf l dC dI cI cJ q σ p1 p2 (tknown_in hI c_16)) (cwV 2 hts (gV ml_X6_139 im_X5_heirOf se_X5_heirOf in_X5 co_X5_heirOf) rfl rfl rfl (by decide +kernel) ⟨Nat.le_of_ble_eq_true rfl, Nat.le_of_ble_eq_true rfl⟩) (preV hK hP (pos := 3) (ci := 5) rfl rfl) rfl rfl hl.1 rfl (lv_room (Nat.le_of_ble_eq_true rfl)) dX6_thing_104 ⟨Nat.zero_le _, Nat.zero_le _⟩) ?_
        exact W.iret (v := fX5_heirOf σ p1 p2) hx hb hr (fun t ht hW => ⟨_, rfl, (by rw [fX6_thing, if_neg c_4, if_neg c_16, if_neg c_22_0, if_neg c_22_1, if_neg c_22_2, if_neg c_22_3, if_pos c_22_4]), ht⟩) (fun _ h => absurd h List.not_mem_nil) dX6_thing_107
      by_cases c_22_5 : p3 = 5
      · refine xs_in (tgt := 108) hx hb 5 c_22_5 dX6_thing_22 (by decide) (by decide) rfl (by decide) ?_
        refine lv_aload_n hx hb dX6_thing_108 rfl (lv_at hl 0 rfl) ?_
        refine va_get (D := (dC, dI)) (ci := 6) (v := .ref (q 13)) (C := RX6) (T := TX6) (N := 6) hx hb hts inX6 hown hK hP 0 rfl rfl 2 (by decide) (hts _ fl_X6_28) (fun _ h9 => h9) rfl dX6_thing_109 ?_
        refine lv_iload_n hx hb dX6_thing_112 rfl (lv_at hl 1 rfl) ?_
        refine lv_iload_n hx hb dX6_thing_113 rfl (lv_at hl 2 rfl) ?_
        refine xc_i (va_runV (As := [.int p1, .int p2]) (rest := []) ⟨hx, hb, hml, hown, hts⟩ (c_X4_timesToldOver l dC dI cI cJ q σ p1 p2 (by assumption)) (cwV 2 hts (gV ml_X6_142 im_X4_timesToldOver se_X4_timesToldOver in_X4 co_X4_timesToldOver) rfl rfl rfl (by decide +kernel) ⟨Nat.le_of_ble_eq_true rfl, Nat.le_of_ble_eq_true rfl⟩) (preV hK hP (pos := 13) (ci := 4) rfl rfl) rfl rfl hl.1 rfl (lv_room (Nat.le_of_ble_eq_true rfl)) dX6_thing_114 ⟨Nat.zero_le _, Nat.zero_le _⟩) ?_
        exact W.iret (v := fX4_timesToldOver σ p1 p2) hx hb hr (fun t ht hW => ⟨_, rfl, (by rw [fX6_thing, if_neg c_4, if_neg c_16, if_neg c_22_0, if_neg c_22_1, if_neg c_22_2, if_neg c_22_3, if_neg c_22_4, if_pos c_22_5]), ht⟩) (fun _ h => absurd h List.not_mem_nil) dX6_thing_117
      refine lv_tableOut (tgt := 118) hx hb dX6_thing_22 (xs_out (n := 6) (by decide) (fun k hk => by
          match k, hk with
          | 0, _ => exact c_22_0
          | 1, _ => exact c_22_1
          | 2, _ => exact c_22_2
          | 3, _ => exact c_22_3
          | 4, _ => exact c_22_4
          | 5, _ => exact c_22_5
          | k + 6, h => exact absurd h (by omega))) (by decide) ?_
      refine lv_iconst (v := (-1)) hx hb dX6_thing_118 (by decide) ?_
      exact W.iret (v := (-1)) hx hb hr (fun t ht hW => ⟨_, rfl, (by rw [fX6_thing, if_neg c_4, if_neg c_16, if_neg c_22_0, if_neg c_22_1, if_neg c_22_2, if_neg c_22_3, if_neg c_22_4, if_neg c_22_5]), ht⟩) (fun _ h => absurd h List.not_mem_nil) dX6_thing_119
    · refine lv_iconst (v := (-1)) hx hb dX6_thing_19 (by decide) ?_
      exact W.iret (v := (-1)) hx hb hr (fun t ht hW => ⟨_, rfl, (by rw [fX6_thing, if_neg c_4, if_pos c_16]), ht⟩) (fun _ h => absurd h List.not_mem_nil) dX6_thing_20

def fX6_hangs (σ : St) (p1 : Int32) (p2 : Int32) : Int32 :=
  (if (fX6_isDay σ p2) = 0 then (-2) else (if (fX3_isKnown_F σ p1 p2) = 0 then (-2) else fX5_livingOn σ (σ.1 15 p1.toNatClampNeg) (σ.1 16 p1.toNatClampNeg) p2))
set_option maxHeartbeats 4000000 in
set_option maxRecDepth 100000 in
theorem c_X6_hangs (l : Launch) (dC : Nat → ClassId) (dI : Nat → Nat → Nat) (cI cJ : ClassId) (q : Nat → Nat) (σ : St) (p1 : Int32) (p2 : Int32) (hI : IB σ) : Met l yX6_hangs (.code yX6_hangs cX6_hangs 3 (some .int) :: tb) { frames := 5, cells := 0, slots := 0, locals := 113 } (Pu (dC, dI) (tyC cI cJ) (wT cI cJ q σ) [.ref (q 0), .int p1, .int p2]) (vp_Si (fun r => r = fX6_hangs σ p1 p2)) 0 0 (fun _ => False) := by
  refine Met.ofW (cc := cX6_hangs) (maxL := 3) (ret := (some .int)) (by decide) rfl ?_
  intro p e s m args below meth c s₁ B hml hv
  obtain ⟨rfl, hP, hK⟩ := hv
  have hx := B.exec
  have hb := B.bytes
  have hr := B.returns
  have hts0 := atoms_spec (ws := .code yX6_hangs cX6_hangs 3 (some .int) :: tb) B.pre
  have hts : ∀ w ∈ tb, w.before _ s = true := fun w hw => hts0 w (List.mem_cons_of_mem _ hw)
  have hown : s.vm.findClass RX6 = some m.cls := findClass_of_methodNamed B.named
  have hlocks := B.notSynchronized
  have hl := lv_entry ([.ref (q 0), .int p1, .int p2]) (n := 3) (Nat.le_of_ble_eq_true rfl)
  rw [lg_entry_eq]
  generalize (lg_sl ([.ref (q 0), .int p1, .int p2]) ++ List.replicate (3 - (lg_sl ([.ref (q 0), .int p1, .int p2])).length) Slot.unset).toArray = ls at hl ⊢
  have hl : lv_has ls 3 [(0, .ref (q 0)), (1, .int p1), (2, .int p2)] := hl
  refine lv_iload_n hx hb dX6_hangs_0 rfl (lv_at hl 2 rfl) ?_
  refine xc_i (va_runS (As := [.int p2]) (rest := []) ⟨hx, hb, hml, hown, hts⟩ (c_X6_isDay l dC dI cI cJ q σ p2) (va_cwS 1 hts (gS ml_X6_56 st_X6_isDay in_X6 co_X6_isDay) rfl rfl rfl (by decide +kernel) ⟨Nat.le_of_ble_eq_true rfl, Nat.le_of_ble_eq_true rfl⟩) (preS hK hP) rfl rfl hl.1 rfl (lv_room (Nat.le_of_ble_eq_true rfl)) dX6_hangs_1 ⟨Nat.zero_le _, Nat.zero_le _⟩) ?_
  refine lv_if_eq (tgt := 19) hx hb dX6_hangs_4 (by decide) (fun c_4 => ?_) (fun c_4 => ?_)
  · refine lv_bipush (v := (-2)) hx hb dX6_hangs_19 (by decide) ?_
    exact W.iret (v := (-2)) hx hb hr (fun t ht hW => ⟨_, rfl, (by rw [fX6_hangs, if_pos c_4]), ht⟩) (fun _ h => absurd h List.not_mem_nil) dX6_hangs_21
  · refine lv_aload_n hx hb dX6_hangs_7 rfl (lv_at hl 0 rfl) ?_
    refine va_get (D := (dC, dI)) (ci := 6) (v := .ref (q 21)) (C := RX6) (T := TX6) (N := 6) hx hb hts inX6 hown hK hP 0 rfl rfl 3 (by decide) (hts _ fl_X6_35) (fun _ h9 => h9) rfl dX6_hangs_8 ?_
    refine lv_iload_n hx hb dX6_hangs_11 rfl (lv_at hl 1 rfl) ?_
    refine lv_iload_n hx hb dX6_hangs_12 rfl (lv_at hl 2 rfl) ?_
    refine xc_i (va_runV (As := [.int p1, .int p2]) (rest := []) ⟨hx, hb, hml, hown, hts⟩ (c_X1_isKnown l dC dI cI cJ q σ p1 p2 (by assumption)) (cwV 2 hts (gV ml_X6_145 im_X1_isKnown se_X1_isKnown in_X1 co_X1_isKnown) rfl rfl rfl (by decide +kernel) ⟨Nat.le_of_ble_eq_true rfl, Nat.le_of_ble_eq_true rfl⟩) (preV hK hP (pos := 21) (ci := 1) rfl rfl) rfl rfl hl.1 rfl (lv_room (Nat.le_of_ble_eq_true rfl)) dX6_hangs_13 ⟨Nat.zero_le _, Nat.zero_le _⟩) ?_
    refine lv_if_ne (tgt := 22) hx hb dX6_hangs_16 (by decide) (fun c_16 => ?_) (fun c_16 => ?_)
    · refine lv_aload_n hx hb dX6_hangs_22 rfl (lv_at hl 0 rfl) ?_
      refine lv_iload_n hx hb dX6_hangs_23 rfl (lv_at hl 1 rfl) ?_
      refine lv_iload_n hx hb dX6_hangs_24 rfl (lv_at hl 2 rfl) ?_
      refine xc_i (va_runV (As := [.int p1, .int p2]) (rest := []) ⟨hx, hb, hml, hown, hts⟩ (c_X6_thingOfFact l dC dI cI cJ q σ p1 p2 (by assumption) (vp_in_mono (known_in_F hI c_16) hI.2.1.2)) (cwV 2 hts (gV ml_X6_146 im_X6_thingOfFact se_X6_thingOfFact in_X6 co_X6_thingOfFact) rfl rfl rfl (by decide +kernel) ⟨Nat.le_of_ble_eq_true rfl, Nat.le_of_ble_eq_true rfl⟩) (preV hK hP (pos := 0) (ci := 6) rfl rfl) rfl rfl hl.1 rfl (lv_room (Nat.le_of_ble_eq_true rfl)) dX6_hangs_25 ⟨Nat.zero_le _, Nat.zero_le _⟩) ?_
      exact W.iret (v := fX5_livingOn σ (σ.1 15 p1.toNatClampNeg) (σ.1 16 p1.toNatClampNeg) p2) hx hb hr (fun t ht hW => ⟨_, rfl, (by rw [fX6_hangs, if_neg c_4, if_neg c_16]), ht⟩) (fun _ h => absurd h List.not_mem_nil) dX6_hangs_28
    · refine lv_bipush (v := (-2)) hx hb dX6_hangs_19 (by decide) ?_
      exact W.iret (v := (-2)) hx hb hr (fun t ht hW => ⟨_, rfl, (by rw [fX6_hangs, if_neg c_4, if_pos c_16]), ht⟩) (fun _ h => absurd h List.not_mem_nil) dX6_hangs_21

def fX6_find (σ : St) (p1 : Int32) (p2 : Int32) (p3 : Int32) : Int32 :=
  (if (fX6_isCode σ p1) = 0 then (-1) else (if (fX6_isDay σ p2) = 0 then (-1) else (if (fX6_isDay σ p3) = 0 then (-1) else fX5_livingOn σ p1 p2 p3)))
set_option maxHeartbeats 4000000 in
set_option maxRecDepth 100000 in
theorem c_X6_find (l : Launch) (dC : Nat → ClassId) (dI : Nat → Nat → Nat) (cI cJ : ClassId) (q : Nat → Nat) (σ : St) (p1 : Int32) (p2 : Int32) (p3 : Int32) (hI : IB σ) : Met l yX6_find (.code yX6_find cX6_find 4 (some .int) :: tb) { frames := 4, cells := 0, slots := 0, locals := 91 } (Pu (dC, dI) (tyC cI cJ) (wT cI cJ q σ) [.ref (q 0), .int p1, .int p2, .int p3]) (vp_Si (fun r => r = fX6_find σ p1 p2 p3)) 0 0 (fun _ => False) := by
  refine Met.ofW (cc := cX6_find) (maxL := 4) (ret := (some .int)) (by decide) rfl ?_
  intro p e s m args below meth c s₁ B hml hv
  obtain ⟨rfl, hP, hK⟩ := hv
  have hx := B.exec
  have hb := B.bytes
  have hr := B.returns
  have hts0 := atoms_spec (ws := .code yX6_find cX6_find 4 (some .int) :: tb) B.pre
  have hts : ∀ w ∈ tb, w.before _ s = true := fun w hw => hts0 w (List.mem_cons_of_mem _ hw)
  have hown : s.vm.findClass RX6 = some m.cls := findClass_of_methodNamed B.named
  have hlocks := B.notSynchronized
  have hl := lv_entry ([.ref (q 0), .int p1, .int p2, .int p3]) (n := 4) (Nat.le_of_ble_eq_true rfl)
  rw [lg_entry_eq]
  generalize (lg_sl ([.ref (q 0), .int p1, .int p2, .int p3]) ++ List.replicate (4 - (lg_sl ([.ref (q 0), .int p1, .int p2, .int p3])).length) Slot.unset).toArray = ls at hl ⊢
  have hl : lv_has ls 4 [(0, .ref (q 0)), (1, .int p1), (2, .int p2), (3, .int p3)] := hl
  refine lv_iload_n hx hb dX6_find_0 rfl (lv_at hl 1 rfl) ?_
  refine xc_i (va_runS (As := [.int p1]) (rest := []) ⟨hx, hb, hml, hown, hts⟩ (c_X6_isCode l dC dI cI cJ q σ p1) (va_cwS 1 hts (gS ml_X6_52 st_X6_isCode in_X6 co_X6_isCode) rfl rfl rfl (by decide +kernel) ⟨Nat.le_of_ble_eq_true rfl, Nat.le_of_ble_eq_true rfl⟩) (preS hK hP) rfl rfl hl.1 rfl (lv_room (Nat.le_of_ble_eq_true rfl)) dX6_find_1 ⟨Nat.zero_le _, Nat.zero_le _⟩) ?_
  refine lv_if_eq (tgt := 21) hx hb dX6_find_4 (by decide) (fun c_4 => ?_) (fun c_4 => ?_)
  · refine lv_iconst (v := (-1)) hx hb dX6_find_21 (by decide) ?_
    exact W.iret (v := (-1)) hx hb hr (fun t ht hW => ⟨_, rfl, (by rw [fX6_find, if_pos c_4]), ht⟩) (fun _ h => absurd h List.not_mem_nil) dX6_find_22
  · refine lv_iload_n hx hb dX6_find_7 rfl (lv_at hl 2 rfl) ?_
    refine xc_i (va_runS (As := [.int p2]) (rest := []) ⟨hx, hb, hml, hown, hts⟩ (c_X6_isDay l dC dI cI cJ q σ p2) (va_cwS 1 hts (gS ml_X6_56 st_X6_isDay in_X6 co_X6_isDay) rfl rfl rfl (by decide +kernel) ⟨Nat.le_of_ble_eq_true rfl, Nat.le_of_ble_eq_true rfl⟩) (preS hK hP) rfl rfl hl.1 rfl (lv_room (Nat.le_of_ble_eq_true rfl)) dX6_find_8 ⟨Nat.zero_le _, Nat.zero_le _⟩) ?_
    refine lv_if_eq (tgt := 21) hx hb dX6_find_11 (by decide) (fun c_11 => ?_) (fun c_11 => ?_)
    · refine lv_iconst (v := (-1)) hx hb dX6_find_21 (by decide) ?_
      exact W.iret (v := (-1)) hx hb hr (fun t ht hW => ⟨_, rfl, (by rw [fX6_find, if_neg c_4, if_pos c_11]), ht⟩) (fun _ h => absurd h List.not_mem_nil) dX6_find_22
    · refine lv_iload_n hx hb dX6_find_14 rfl (lv_at hl 3 rfl) ?_
      refine xc_i (va_runS (As := [.int p3]) (rest := []) ⟨hx, hb, hml, hown, hts⟩ (c_X6_isDay l dC dI cI cJ q σ p3) (va_cwS 1 hts (gS ml_X6_56 st_X6_isDay in_X6 co_X6_isDay) rfl rfl rfl (by decide +kernel) ⟨Nat.le_of_ble_eq_true rfl, Nat.le_of_ble_eq_true rfl⟩) (preS hK hP) rfl rfl hl.1 rfl (lv_room (Nat.le_of_ble_eq_true rfl)) dX6_find_15 ⟨Nat.zero_le _, Nat.zero_le _⟩) ?_
      refine lv_if_ne (tgt := 23) hx hb dX6_find_18 (by decide) (fun c_18 => ?_) (fun c_18 => ?_)
      · refine lv_aload_n hx hb dX6_find_23 rfl (lv_at hl 0 rfl) ?_
        refine va_get (D := (dC, dI)) (ci := 6) (v := .ref (q 3)) (C := RX6) (T := TX6) (N := 6) hx hb hts inX6 hown hK hP 0 rfl rfl 1 (by decide) (hts _ fl_X6_19) (fun _ h9 => h9) rfl dX6_find_24 ?_
        refine lv_iload_n hx hb dX6_find_27 rfl (lv_at hl 1 rfl) ?_
        refine lv_iload_n hx hb dX6_find_28 rfl (lv_at hl 2 rfl) ?_
        refine lv_iload_n hx hb dX6_find_29 rfl (lv_at hl 3 rfl) ?_
        refine xc_i (va_runV (As := [.int p1, .int p2, .int p3]) (rest := []) ⟨hx, hb, hml, hown, hts⟩ (c_X5_livingOn l dC dI cI cJ q σ p1 p2 p3 (by assumption)) (cwV 3 hts (gV ml_X6_149 im_X5_livingOn se_X5_livingOn in_X5 co_X5_livingOn) rfl rfl rfl (by decide +kernel) ⟨Nat.le_of_ble_eq_true rfl, Nat.le_of_ble_eq_true rfl⟩) (preV hK hP (pos := 3) (ci := 5) rfl rfl) rfl rfl hl.1 rfl (lv_room (Nat.le_of_ble_eq_true rfl)) dX6_find_30 ⟨Nat.zero_le _, Nat.zero_le _⟩) ?_
        exact W.iret (v := fX5_livingOn σ p1 p2 p3) hx hb hr (fun t ht hW => ⟨_, rfl, (by rw [fX6_find, if_neg c_4, if_neg c_11, if_neg c_18]), ht⟩) (fun _ h => absurd h List.not_mem_nil) dX6_find_33
      · refine lv_iconst (v := (-1)) hx hb dX6_find_21 (by decide) ?_
        exact W.iret (v := (-1)) hx hb hr (fun t ht hW => ⟨_, rfl, (by rw [fX6_find, if_neg c_4, if_neg c_11, if_pos c_18]), ht⟩) (fun _ h => absurd h List.not_mem_nil) dX6_find_22

def flX6_then_29 (σ : St) (p1 : Int32) (p2 : Int32) (p3 : Int32) : Nat → Nat → Int64 → Int64
  | 0, i, tot => tot
  | k + 1, i, tot => (if (fX3_isKnown_F σ (nI i) p3) = 0 then flX6_then_29 σ p1 p2 p3 k (i + 1) tot else (if (fX6_isMarkedThen σ (nI i) p1 p2 p3) = 0 then flX6_then_29 σ p1 p2 p3 k (i + 1) tot else flX6_then_29 σ p1 p2 p3 k (i + 1) (tot + ((σ.1 17 ((nI i).toNatClampNeg)).toInt64))))
def fX6_then (σ : St) (p1 : Int32) (p2 : Int32) (p3 : Int32) : Int64 :=
  (if (fX6_isMark σ p1) = 0 then 0 else (if (fX6_isAnswer σ p2) = 0 then 0 else (if (fX6_isDay σ p3) = 0 then 0 else flX6_then_29 σ p1 p2 p3 ((σ.2.1 2).toNatClampNeg) 0 0)))
set_option maxHeartbeats 4000000 in
set_option maxRecDepth 100000 in
theorem c_X6_then (l : Launch) (dC : Nat → ClassId) (dI : Nat → Nat → Nat) (cI cJ : ClassId) (q : Nat → Nat) (σ : St) (p1 : Int32) (p2 : Int32) (p3 : Int32) (hI : IB σ) : Met l yX6_then (.code yX6_then cX6_then 7 (some .long) :: tb) { frames := 6, cells := 0, slots := 0, locals := 138 } (Pu (dC, dI) (tyC cI cJ) (wT cI cJ q σ) [.ref (q 0), .int p1, .int p2, .int p3]) (vp_Sl (fun r => r = fX6_then σ p1 p2 p3)) 0 0 (fun _ => False) := by
  refine Met.ofW (cc := cX6_then) (maxL := 7) (ret := (some .long)) (by decide) rfl ?_
  intro p e s m args below meth c s₁ B hml hv
  obtain ⟨rfl, hP, hK⟩ := hv
  have hx := B.exec
  have hb := B.bytes
  have hr := B.returns
  have hts0 := atoms_spec (ws := .code yX6_then cX6_then 7 (some .long) :: tb) B.pre
  have hts : ∀ w ∈ tb, w.before _ s = true := fun w hw => hts0 w (List.mem_cons_of_mem _ hw)
  have hown : s.vm.findClass RX6 = some m.cls := findClass_of_methodNamed B.named
  have hlocks := B.notSynchronized
  have hl := lv_entry ([.ref (q 0), .int p1, .int p2, .int p3]) (n := 7) (Nat.le_of_ble_eq_true rfl)
  rw [lg_entry_eq]
  generalize (lg_sl ([.ref (q 0), .int p1, .int p2, .int p3]) ++ List.replicate (7 - (lg_sl ([.ref (q 0), .int p1, .int p2, .int p3])).length) Slot.unset).toArray = ls at hl ⊢
  have hl : lv_has ls 7 [(0, .ref (q 0)), (1, .int p1), (2, .int p2), (3, .int p3)] := hl
  refine lv_iload_n hx hb dX6_then_0 rfl (lv_at hl 1 rfl) ?_
  refine xc_i (va_runS (As := [.int p1]) (rest := []) ⟨hx, hb, hml, hown, hts⟩ (c_X6_isMark l dC dI cI cJ q σ p1) (va_cwS 1 hts (gS ml_X6_89 st_X6_isMark in_X6 co_X6_isMark) rfl rfl rfl (by decide +kernel) ⟨Nat.le_of_ble_eq_true rfl, Nat.le_of_ble_eq_true rfl⟩) (preS hK hP) rfl rfl hl.1 rfl (lv_room (Nat.le_of_ble_eq_true rfl)) dX6_then_1 ⟨Nat.zero_le _, Nat.zero_le _⟩) ?_
  refine lv_if_eq (tgt := 21) hx hb dX6_then_4 (by decide) (fun c_4 => ?_) (fun c_4 => ?_)
  · refine lv_lconst (v := 0) hx hb dX6_then_21 (by decide) ?_
    exact W.lret (v := 0) hx hb hr (fun t ht hW => ⟨_, rfl, (by rw [fX6_then, if_pos c_4]), ht⟩) (fun _ h => absurd h List.not_mem_nil) dX6_then_22
  · refine lv_iload_n hx hb dX6_then_7 rfl (lv_at hl 2 rfl) ?_
    refine xc_i (va_runS (As := [.int p2]) (rest := []) ⟨hx, hb, hml, hown, hts⟩ (c_X6_isAnswer l dC dI cI cJ q σ p2) (va_cwS 1 hts (gS ml_X6_152 st_X6_isAnswer in_X6 co_X6_isAnswer) rfl rfl rfl (by decide +kernel) ⟨Nat.le_of_ble_eq_true rfl, Nat.le_of_ble_eq_true rfl⟩) (preS hK hP) rfl rfl hl.1 rfl (lv_room (Nat.le_of_ble_eq_true rfl)) dX6_then_8 ⟨Nat.zero_le _, Nat.zero_le _⟩) ?_
    refine lv_if_eq (tgt := 21) hx hb dX6_then_11 (by decide) (fun c_11 => ?_) (fun c_11 => ?_)
    · refine lv_lconst (v := 0) hx hb dX6_then_21 (by decide) ?_
      exact W.lret (v := 0) hx hb hr (fun t ht hW => ⟨_, rfl, (by rw [fX6_then, if_neg c_4, if_pos c_11]), ht⟩) (fun _ h => absurd h List.not_mem_nil) dX6_then_22
    · refine lv_iload_n hx hb dX6_then_14 rfl (lv_at hl 3 rfl) ?_
      refine xc_i (va_runS (As := [.int p3]) (rest := []) ⟨hx, hb, hml, hown, hts⟩ (c_X6_isDay l dC dI cI cJ q σ p3) (va_cwS 1 hts (gS ml_X6_56 st_X6_isDay in_X6 co_X6_isDay) rfl rfl rfl (by decide +kernel) ⟨Nat.le_of_ble_eq_true rfl, Nat.le_of_ble_eq_true rfl⟩) (preS hK hP) rfl rfl hl.1 rfl (lv_room (Nat.le_of_ble_eq_true rfl)) dX6_then_15 ⟨Nat.zero_le _, Nat.zero_le _⟩) ?_
      refine lv_if_ne (tgt := 23) hx hb dX6_then_18 (by decide) (fun c_18 => ?_) (fun c_18 => ?_)
      · refine lv_lconst (v := 0) hx hb dX6_then_23 (by decide) ?_
        refine lv_lstore (lv' := [(4, .long 0), (0, .ref (q 0)), (1, .int p1), (2, .int p2), (3, .int p3)]) hx hb dX6_then_24 hl (by decide) rfl (fun ls hl => ?_)
        refine lv_iconst (v := 0) hx hb dX6_then_26 (by decide) ?_
        refine lv_istore (lv' := [(6, .int 0), (4, .long 0), (0, .ref (q 0)), (1, .int p1), (2, .int p2), (3, .int p3)]) hx hb dX6_then_27 hl (by decide) rfl (fun ls hl => ?_)
        have hz : szI (σ.2.1 2) 200 := hI.2.1
        have hz2 := hz.2
        have loop_29 : ∀ (k i : Nat) (tot : Int64), i + k = (σ.2.1 2).toNatClampNeg → fX6_then σ p1 p2 p3 = flX6_then_29 σ p1 p2 p3 k i tot → ∀ (ls : Array Slot), lv_has ls 7 [(0, .ref (q 0)), (1, .int p1), (2, .int p2), (3, .int p3), (6, .int (nI i)), (4, .long tot)] → W p l e (headSpec (.code yX6_then cX6_then 7 (some .long) :: tb) { frames := 6, cells := 0, slots := 0, locals := 138 }).room s m (List.toArray [.ref (q 0), .int p1, .int p2, .int p3]) below meth c s.heap [] 0 0 (MQ below (vp_Sl (fun r => r = fX6_then σ p1 p2 p3)) (List.toArray [.ref (q 0), .int p1, .int p2, .int p3]) s 0 0 (fun _ => False)) (F0 m 29 ls []) := by
          intro k
          induction k with
          | zero =>
            intro i tot hik hE ls hl
            refine lv_iload hx hb dX6_then_29 (lv_at hl 4 rfl) ?_
            refine lv_aload_n hx hb dX6_then_31 rfl (lv_at hl 0 rfl) ?_
            refine va_get (D := (dC, dI)) (ci := 6) (v := .ref (q 21)) (C := RX6) (T := TX6) (N := 6) hx hb hts inX6 hown hK hP 0 rfl rfl 3 (by decide) (hts _ fl_X6_35) (fun _ h9 => h9) rfl dX6_then_32 ?_
            refine xc_i (va_runV (As := []) (rest := [.int (nI i)]) ⟨hx, hb, hml, hown, hts⟩ (c_X1_size l dC dI cI cJ q σ ) (cwV 0 hts (gV ml_X6_155 im_X1_size se_X1_size in_X1 co_X1_size) rfl rfl rfl (by decide +kernel) ⟨Nat.le_of_ble_eq_true rfl, Nat.le_of_ble_eq_true rfl⟩) (preV hK hP (pos := 21) (ci := 1) rfl rfl) rfl rfl hl.1 rfl (lv_room (Nat.le_of_ble_eq_true rfl)) dX6_then_35 ⟨Nat.zero_le _, Nat.zero_le _⟩) ?_
            refine lv_icmp_ge (tgt := 87) hx hb dX6_then_38 (by decide) (fun c_38 => ?_) (fun c_38 => ?_)
            · refine lv_lload hx hb dX6_then_87 (lv_at hl 5 rfl) ?_
              exact W.lret (v := tot) hx hb hr (fun t ht hW => ⟨_, rfl, (by rw [hE, flX6_then_29]), ht⟩) (fun _ h => absurd h List.not_mem_nil) dX6_then_89
            · exact absurd (by rw [hz.1]; exact nI_le (by omega) (by omega)) c_38
          | succ k ih =>
            intro i tot hik hE ls hl
            refine lv_iload hx hb dX6_then_29 (lv_at hl 4 rfl) ?_
            refine lv_aload_n hx hb dX6_then_31 rfl (lv_at hl 0 rfl) ?_
            refine va_get (D := (dC, dI)) (ci := 6) (v := .ref (q 21)) (C := RX6) (T := TX6) (N := 6) hx hb hts inX6 hown hK hP 0 rfl rfl 3 (by decide) (hts _ fl_X6_35) (fun _ h9 => h9) rfl dX6_then_32 ?_
            refine xc_i (va_runV (As := []) (rest := [.int (nI i)]) ⟨hx, hb, hml, hown, hts⟩ (c_X1_size l dC dI cI cJ q σ ) (cwV 0 hts (gV ml_X6_155 im_X1_size se_X1_size in_X1 co_X1_size) rfl rfl rfl (by decide +kernel) ⟨Nat.le_of_ble_eq_true rfl, Nat.le_of_ble_eq_true rfl⟩) (preV hK hP (pos := 21) (ci := 1) rfl rfl) rfl rfl hl.1 rfl (lv_room (Nat.le_of_ble_eq_true rfl)) dX6_then_35 ⟨Nat.zero_le _, Nat.zero_le _⟩) ?_
            refine lv_icmp_ge (tgt := 87) hx hb dX6_then_38 (by decide) (fun c_38 => ?_) (fun c_38 => ?_)
            · exact absurd c_38 (by rw [hz.1]; exact nI_ge (by omega) (by omega))
            · refine lv_aload_n hx hb dX6_then_41 rfl (lv_at hl 0 rfl) ?_
              refine va_get (D := (dC, dI)) (ci := 6) (v := .ref (q 21)) (C := RX6) (T := TX6) (N := 6) hx hb hts inX6 hown hK hP 0 rfl rfl 3 (by decide) (hts _ fl_X6_35) (fun _ h9 => h9) rfl dX6_then_42 ?_
              refine lv_iload hx hb dX6_then_45 (lv_at hl 4 rfl) ?_
              refine lv_iload_n hx hb dX6_then_47 rfl (lv_at hl 3 rfl) ?_
              refine xc_i (va_runV (As := [.int (nI i), .int p3]) (rest := []) ⟨hx, hb, hml, hown, hts⟩ (c_X1_isKnown l dC dI cI cJ q σ (nI i) p3 (by assumption)) (cwV 2 hts (gV ml_X6_145 im_X1_isKnown se_X1_isKnown in_X1 co_X1_isKnown) rfl rfl rfl (by decide +kernel) ⟨Nat.le_of_ble_eq_true rfl, Nat.le_of_ble_eq_true rfl⟩) (preV hK hP (pos := 21) (ci := 1) rfl rfl) rfl rfl hl.1 rfl (lv_room (Nat.le_of_ble_eq_true rfl)) dX6_then_48 ⟨Nat.zero_le _, Nat.zero_le _⟩) ?_
              refine lv_if_eq (tgt := 81) hx hb dX6_then_51 (by decide) (fun c_51 => ?_) (fun c_51 => ?_)
              · refine lv_iinc (v := nI (i + 1)) (lv' := [(6, .int (nI (i + 1))), (0, .ref (q 0)), (1, .int p1), (2, .int p2), (3, .int p3), (4, .long tot)]) hx hb dX6_then_81 hl (k := 4) rfl (nI_1 i) (by decide) rfl (fun ls hl => ?_)
                refine lv_goto (tgt := 29) hx hb dX6_then_84 (by decide) ?_
                exact ih (i + 1) tot (by omega) (by rw [hE, flX6_then_29, if_pos c_51]) ls (lv_sub hl [1, 2, 3, 4, 0, 5] rfl)
              · refine lv_aload_n hx hb dX6_then_54 rfl (lv_at hl 0 rfl) ?_
                refine lv_iload hx hb dX6_then_55 (lv_at hl 4 rfl) ?_
                refine lv_iload_n hx hb dX6_then_57 rfl (lv_at hl 1 rfl) ?_
                refine lv_iload_n hx hb dX6_then_58 rfl (lv_at hl 2 rfl) ?_
                refine lv_iload_n hx hb dX6_then_59 rfl (lv_at hl 3 rfl) ?_
                refine xc_i (va_runV (As := [.int (nI i), .int p1, .int p2, .int p3]) (rest := []) ⟨hx, hb, hml, hown, hts⟩ (c_X6_isMarkedThen l dC dI cI cJ q σ (nI i) p1 p2 p3 (by assumption) (vp_in_nI (by omega) (by decide))) (cwV 4 hts (gV ml_X6_158 im_X6_isMarkedThen se_X6_isMarkedThen in_X6 co_X6_isMarkedThen) rfl rfl rfl (by decide +kernel) ⟨Nat.le_of_ble_eq_true rfl, Nat.le_of_ble_eq_true rfl⟩) (preV hK hP (pos := 0) (ci := 6) rfl rfl) rfl rfl hl.1 rfl (lv_room (Nat.le_of_ble_eq_true rfl)) dX6_then_60 ⟨Nat.zero_le _, Nat.zero_le _⟩) ?_
                refine lv_if_eq (tgt := 81) hx hb dX6_then_63 (by decide) (fun c_63 => ?_) (fun c_63 => ?_)
                · refine lv_iinc (v := nI (i + 1)) (lv' := [(6, .int (nI (i + 1))), (0, .ref (q 0)), (1, .int p1), (2, .int p2), (3, .int p3), (4, .long tot)]) hx hb dX6_then_81 hl (k := 4) rfl (nI_1 i) (by decide) rfl (fun ls hl => ?_)
                  refine lv_goto (tgt := 29) hx hb dX6_then_84 (by decide) ?_
                  exact ih (i + 1) tot (by omega) (by rw [hE, flX6_then_29, if_neg c_51, if_pos c_63]) ls (lv_sub hl [1, 2, 3, 4, 0, 5] rfl)
                · refine lv_lload hx hb dX6_then_66 (lv_at hl 5 rfl) ?_
                  refine lv_aload_n hx hb dX6_then_68 rfl (lv_at hl 0 rfl) ?_
                  refine va_get (D := (dC, dI)) (ci := 6) (v := .ref (q 21)) (C := RX6) (T := TX6) (N := 6) hx hb hts inX6 hown hK hP 0 rfl rfl 3 (by decide) (hts _ fl_X6_35) (fun _ h9 => h9) rfl dX6_then_69 ?_
                  refine lv_iload hx hb dX6_then_72 (lv_at hl 4 rfl) ?_
                  refine xc_i (va_runV (As := [.int (nI i)]) (rest := [.long tot]) ⟨hx, hb, hml, hown, hts⟩ (c_X1_amountOf l dC dI cI cJ q σ (nI i) (vp_in_nI (by omega) (by decide))) (cwV 1 hts (gV ml_X6_161 im_X1_amountOf se_X1_amountOf in_X1 co_X1_amountOf) rfl rfl rfl (by decide +kernel) ⟨Nat.le_of_ble_eq_true rfl, Nat.le_of_ble_eq_true rfl⟩) (preV hK hP (pos := 21) (ci := 1) rfl rfl) rfl rfl hl.1 rfl (lv_room (Nat.le_of_ble_eq_true rfl)) dX6_then_74 ⟨Nat.zero_le _, Nat.zero_le _⟩) ?_
                  refine lv_i2l (v := (σ.1 17 ((nI i).toNatClampNeg)).toInt64) hx hb dX6_then_77 rfl ?_
                  refine lv_ladd hx hb dX6_then_78 ?_
                  refine lv_lstore (lv' := [(4, .long (tot + ((σ.1 17 ((nI i).toNatClampNeg)).toInt64))), (0, .ref (q 0)), (1, .int p1), (2, .int p2), (3, .int p3), (6, .int (nI i))]) hx hb dX6_then_79 hl (by decide) rfl (fun ls hl => ?_)
                  refine lv_iinc (v := nI (i + 1)) (lv' := [(6, .int (nI (i + 1))), (4, .long (tot + ((σ.1 17 ((nI i).toNatClampNeg)).toInt64))), (0, .ref (q 0)), (1, .int p1), (2, .int p2), (3, .int p3)]) hx hb dX6_then_81 hl (k := 5) rfl (nI_1 i) (by decide) rfl (fun ls hl => ?_)
                  refine lv_goto (tgt := 29) hx hb dX6_then_84 (by decide) ?_
                  exact ih (i + 1) (tot + ((σ.1 17 ((nI i).toNatClampNeg)).toInt64)) (by omega) (by rw [hE, flX6_then_29, if_neg c_51, if_neg c_63]) ls (lv_sub hl [2, 3, 4, 5, 0, 1] rfl)
        exact loop_29 ((σ.2.1 2).toNatClampNeg) 0 0 (by rw [Nat.zero_add]) (by rw [fX6_then, if_neg c_4, if_neg c_11, if_neg c_18]) ls (lv_sub hl [2, 3, 4, 5, 0, 1] rfl)
      · refine lv_lconst (v := 0) hx hb dX6_then_21 (by decide) ?_
        exact W.lret (v := 0) hx hb hr (fun t ht hW => ⟨_, rfl, (by rw [fX6_then, if_neg c_4, if_neg c_11, if_pos c_18]), ht⟩) (fun _ h => absurd h List.not_mem_nil) dX6_then_22

def flX6_sumOfFacts_5 (σ : St) (p1 : Int32) (p2 : Int32) : Nat → Nat → Int64 → Int64
  | 0, i, tot => tot
  | k + 1, i, tot => (if (fX3_isKnown_F σ (nI i) p1) = 0 then flX6_sumOfFacts_5 σ p1 p2 k (i + 1) tot else (if p2 = 0 then flX6_sumOfFacts_5 σ p1 p2 k (i + 1) (tot + ((σ.1 17 ((nI i).toNatClampNeg)).toInt64)) else (if (fX5_livingOn σ (σ.1 15 ((nI i).toNatClampNeg)) (σ.1 16 ((nI i).toNatClampNeg)) p1) = (-1) then flX6_sumOfFacts_5 σ p1 p2 k (i + 1) (tot + ((σ.1 17 ((nI i).toNatClampNeg)).toInt64)) else flX6_sumOfFacts_5 σ p1 p2 k (i + 1) tot)))
def fX6_sumOfFacts (σ : St) (p1 : Int32) (p2 : Int32) : Int64 :=
  flX6_sumOfFacts_5 σ p1 p2 ((σ.2.1 2).toNatClampNeg) 0 0
set_option maxHeartbeats 4000000 in
set_option maxRecDepth 100000 in
theorem c_X6_sumOfFacts (l : Launch) (dC : Nat → ClassId) (dI : Nat → Nat → Nat) (cI cJ : ClassId) (q : Nat → Nat) (σ : St) (p1 : Int32) (p2 : Int32) (hI : IB σ) : Met l yX6_sumOfFacts (.code yX6_sumOfFacts cX6_sumOfFacts 6 (some .long) :: tb) { frames := 5, cells := 0, slots := 0, locals := 113 } (Pu (dC, dI) (tyC cI cJ) (wT cI cJ q σ) [.ref (q 0), .int p1, .int p2]) (vp_Sl (fun r => r = fX6_sumOfFacts σ p1 p2)) 0 0 (fun _ => False) := by
  refine Met.ofW (cc := cX6_sumOfFacts) (maxL := 6) (ret := (some .long)) (by decide) rfl ?_
  intro p e s m args below meth c s₁ B hml hv
  obtain ⟨rfl, hP, hK⟩ := hv
  have hx := B.exec
  have hb := B.bytes
  have hr := B.returns
  have hts0 := atoms_spec (ws := .code yX6_sumOfFacts cX6_sumOfFacts 6 (some .long) :: tb) B.pre
  have hts : ∀ w ∈ tb, w.before _ s = true := fun w hw => hts0 w (List.mem_cons_of_mem _ hw)
  have hown : s.vm.findClass RX6 = some m.cls := findClass_of_methodNamed B.named
  have hlocks := B.notSynchronized
  have hl := lv_entry ([.ref (q 0), .int p1, .int p2]) (n := 6) (Nat.le_of_ble_eq_true rfl)
  rw [lg_entry_eq]
  generalize (lg_sl ([.ref (q 0), .int p1, .int p2]) ++ List.replicate (6 - (lg_sl ([.ref (q 0), .int p1, .int p2])).length) Slot.unset).toArray = ls at hl ⊢
  have hl : lv_has ls 6 [(0, .ref (q 0)), (1, .int p1), (2, .int p2)] := hl
  refine lv_lconst (v := 0) hx hb dX6_sumOfFacts_0 (by decide) ?_
  refine lv_lstore_n (lv' := [(3, .long 0), (0, .ref (q 0)), (1, .int p1), (2, .int p2)]) hx hb dX6_sumOfFacts_1 rfl hl (by decide) rfl (fun ls hl => ?_)
  refine lv_iconst (v := 0) hx hb dX6_sumOfFacts_2 (by decide) ?_
  refine lv_istore (lv' := [(5, .int 0), (3, .long 0), (0, .ref (q 0)), (1, .int p1), (2, .int p2)]) hx hb dX6_sumOfFacts_3 hl (by decide) rfl (fun ls hl => ?_)
  have hz : szI (σ.2.1 2) 200 := hI.2.1
  have hz2 := hz.2
  have loop_5 : ∀ (k i : Nat) (tot : Int64), i + k = (σ.2.1 2).toNatClampNeg → fX6_sumOfFacts σ p1 p2 = flX6_sumOfFacts_5 σ p1 p2 k i tot → ∀ (ls : Array Slot), lv_has ls 6 [(0, .ref (q 0)), (1, .int p1), (2, .int p2), (5, .int (nI i)), (3, .long tot)] → W p l e (headSpec (.code yX6_sumOfFacts cX6_sumOfFacts 6 (some .long) :: tb) { frames := 5, cells := 0, slots := 0, locals := 113 }).room s m (List.toArray [.ref (q 0), .int p1, .int p2]) below meth c s.heap [] 0 0 (MQ below (vp_Sl (fun r => r = fX6_sumOfFacts σ p1 p2)) (List.toArray [.ref (q 0), .int p1, .int p2]) s 0 0 (fun _ => False)) (F0 m 5 ls []) := by
    intro k
    induction k with
    | zero =>
      intro i tot hik hE ls hl
      refine lv_iload hx hb dX6_sumOfFacts_5 (lv_at hl 3 rfl) ?_
      refine lv_aload_n hx hb dX6_sumOfFacts_7 rfl (lv_at hl 0 rfl) ?_
      refine va_get (D := (dC, dI)) (ci := 6) (v := .ref (q 21)) (C := RX6) (T := TX6) (N := 6) hx hb hts inX6 hown hK hP 0 rfl rfl 3 (by decide) (hts _ fl_X6_35) (fun _ h9 => h9) rfl dX6_sumOfFacts_8 ?_
      refine xc_i (va_runV (As := []) (rest := [.int (nI i)]) ⟨hx, hb, hml, hown, hts⟩ (c_X1_size l dC dI cI cJ q σ ) (cwV 0 hts (gV ml_X6_155 im_X1_size se_X1_size in_X1 co_X1_size) rfl rfl rfl (by decide +kernel) ⟨Nat.le_of_ble_eq_true rfl, Nat.le_of_ble_eq_true rfl⟩) (preV hK hP (pos := 21) (ci := 1) rfl rfl) rfl rfl hl.1 rfl (lv_room (Nat.le_of_ble_eq_true rfl)) dX6_sumOfFacts_11 ⟨Nat.zero_le _, Nat.zero_le _⟩) ?_
      refine lv_icmp_ge (tgt := 64) hx hb dX6_sumOfFacts_14 (by decide) (fun c_14 => ?_) (fun c_14 => ?_)
      · refine lv_lload_n hx hb dX6_sumOfFacts_64 rfl (lv_at hl 4 rfl) ?_
        exact W.lret (v := tot) hx hb hr (fun t ht hW => ⟨_, rfl, (by rw [hE, flX6_sumOfFacts_5]), ht⟩) (fun _ h => absurd h List.not_mem_nil) dX6_sumOfFacts_65
      · exact absurd (by rw [hz.1]; exact nI_le (by omega) (by omega)) c_14
    | succ k ih =>
      intro i tot hik hE ls hl
      refine lv_iload hx hb dX6_sumOfFacts_5 (lv_at hl 3 rfl) ?_
      refine lv_aload_n hx hb dX6_sumOfFacts_7 rfl (lv_at hl 0 rfl) ?_
      refine va_get (D := (dC, dI)) (ci := 6) (v := .ref (q 21)) (C := RX6) (T := TX6) (N := 6) hx hb hts inX6 hown hK hP 0 rfl rfl 3 (by decide) (hts _ fl_X6_35) (fun _ h9 => h9) rfl dX6_sumOfFacts_8 ?_
      refine xc_i (va_runV (As := []) (rest := [.int (nI i)]) ⟨hx, hb, hml, hown, hts⟩ (c_X1_size l dC dI cI cJ q σ ) (cwV 0 hts (gV ml_X6_155 im_X1_size se_X1_size in_X1 co_X1_size) rfl rfl rfl (by decide +kernel) ⟨Nat.le_of_ble_eq_true rfl, Nat.le_of_ble_eq_true rfl⟩) (preV hK hP (pos := 21) (ci := 1) rfl rfl) rfl rfl hl.1 rfl (lv_room (Nat.le_of_ble_eq_true rfl)) dX6_sumOfFacts_11 ⟨Nat.zero_le _, Nat.zero_le _⟩) ?_
      refine lv_icmp_ge (tgt := 64) hx hb dX6_sumOfFacts_14 (by decide) (fun c_14 => ?_) (fun c_14 => ?_)
      · exact absurd c_14 (by rw [hz.1]; exact nI_ge (by omega) (by omega))
      · refine lv_aload_n hx hb dX6_sumOfFacts_17 rfl (lv_at hl 0 rfl) ?_
        refine va_get (D := (dC, dI)) (ci := 6) (v := .ref (q 21)) (C := RX6) (T := TX6) (N := 6) hx hb hts inX6 hown hK hP 0 rfl rfl 3 (by decide) (hts _ fl_X6_35) (fun _ h9 => h9) rfl dX6_sumOfFacts_18 ?_
        refine lv_iload hx hb dX6_sumOfFacts_21 (lv_at hl 3 rfl) ?_
        refine lv_iload_n hx hb dX6_sumOfFacts_23 rfl (lv_at hl 1 rfl) ?_
        refine xc_i (va_runV (As := [.int (nI i), .int p1]) (rest := []) ⟨hx, hb, hml, hown, hts⟩ (c_X1_isKnown l dC dI cI cJ q σ (nI i) p1 (by assumption)) (cwV 2 hts (gV ml_X6_145 im_X1_isKnown se_X1_isKnown in_X1 co_X1_isKnown) rfl rfl rfl (by decide +kernel) ⟨Nat.le_of_ble_eq_true rfl, Nat.le_of_ble_eq_true rfl⟩) (preV hK hP (pos := 21) (ci := 1) rfl rfl) rfl rfl hl.1 rfl (lv_room (Nat.le_of_ble_eq_true rfl)) dX6_sumOfFacts_24 ⟨Nat.zero_le _, Nat.zero_le _⟩) ?_
        refine lv_if_eq (tgt := 58) hx hb dX6_sumOfFacts_27 (by decide) (fun c_27 => ?_) (fun c_27 => ?_)
        · refine lv_iinc (v := nI (i + 1)) (lv' := [(5, .int (nI (i + 1))), (0, .ref (q 0)), (1, .int p1), (2, .int p2), (3, .long tot)]) hx hb dX6_sumOfFacts_58 hl (k := 3) rfl (nI_1 i) (by decide) rfl (fun ls hl => ?_)
          refine lv_goto (tgt := 5) hx hb dX6_sumOfFacts_61 (by decide) ?_
          exact ih (i + 1) tot (by omega) (by rw [hE, flX6_sumOfFacts_5, if_pos c_27]) ls (lv_sub hl [1, 2, 3, 0, 4] rfl)
        · refine lv_iload_n hx hb dX6_sumOfFacts_30 rfl (lv_at hl 2 rfl) ?_
          refine lv_if_eq (tgt := 45) hx hb dX6_sumOfFacts_31 (by decide) (fun c_31 => ?_) (fun c_31 => ?_)
          · refine lv_lload_n hx hb dX6_sumOfFacts_45 rfl (lv_at hl 4 rfl) ?_
            refine lv_aload_n hx hb dX6_sumOfFacts_46 rfl (lv_at hl 0 rfl) ?_
            refine va_get (D := (dC, dI)) (ci := 6) (v := .ref (q 21)) (C := RX6) (T := TX6) (N := 6) hx hb hts inX6 hown hK hP 0 rfl rfl 3 (by decide) (hts _ fl_X6_35) (fun _ h9 => h9) rfl dX6_sumOfFacts_47 ?_
            refine lv_iload hx hb dX6_sumOfFacts_50 (lv_at hl 3 rfl) ?_
            refine xc_i (va_runV (As := [.int (nI i)]) (rest := [.long tot]) ⟨hx, hb, hml, hown, hts⟩ (c_X1_amountOf l dC dI cI cJ q σ (nI i) (vp_in_nI (by omega) (by decide))) (cwV 1 hts (gV ml_X6_161 im_X1_amountOf se_X1_amountOf in_X1 co_X1_amountOf) rfl rfl rfl (by decide +kernel) ⟨Nat.le_of_ble_eq_true rfl, Nat.le_of_ble_eq_true rfl⟩) (preV hK hP (pos := 21) (ci := 1) rfl rfl) rfl rfl hl.1 rfl (lv_room (Nat.le_of_ble_eq_true rfl)) dX6_sumOfFacts_52 ⟨Nat.zero_le _, Nat.zero_le _⟩) ?_
            refine lv_i2l (v := (σ.1 17 ((nI i).toNatClampNeg)).toInt64) hx hb dX6_sumOfFacts_55 rfl ?_
            refine lv_ladd hx hb dX6_sumOfFacts_56 ?_
            refine lv_lstore_n (lv' := [(3, .long (tot + ((σ.1 17 ((nI i).toNatClampNeg)).toInt64))), (0, .ref (q 0)), (1, .int p1), (2, .int p2), (5, .int (nI i))]) hx hb dX6_sumOfFacts_57 rfl hl (by decide) rfl (fun ls hl => ?_)
            refine lv_iinc (v := nI (i + 1)) (lv' := [(5, .int (nI (i + 1))), (3, .long (tot + ((σ.1 17 ((nI i).toNatClampNeg)).toInt64))), (0, .ref (q 0)), (1, .int p1), (2, .int p2)]) hx hb dX6_sumOfFacts_58 hl (k := 4) rfl (nI_1 i) (by decide) rfl (fun ls hl => ?_)
            refine lv_goto (tgt := 5) hx hb dX6_sumOfFacts_61 (by decide) ?_
            exact ih (i + 1) (tot + ((σ.1 17 ((nI i).toNatClampNeg)).toInt64)) (by omega) (by rw [hE, flX6_sumOfFacts_5, if_neg c_27, if_pos c_31]) ls (lv_sub hl [2, 3, 4, 0, 1] rfl)
          · refine lv_aload_n hx hb dX6_sumOfFacts_34 rfl (lv_at hl 0 rfl) ?_
            refine lv_iload hx hb dX6_sumOfFacts_35 (lv_at hl 3 rfl) ?_
            refine lv_iload_n hx hb dX6_sumOfFacts_37 rfl (lv_at hl 1 rfl) ?_
            refine xc_i (va_runV (As := [.int (nI i), .int p1]) (rest := []) ⟨hx, hb, hml, hown, hts⟩ (c_X6_thingOfFact l dC dI cI cJ q σ (nI i) p1 (by assumption) (vp_in_nI (by omega) (by decide))) (cwV 2 hts (gV ml_X6_146 im_X6_thingOfFact se_X6_thingOfFact in_X6 co_X6_thingOfFact) rfl rfl rfl (by decide +kernel) ⟨Nat.le_of_ble_eq_true rfl, Nat.le_of_ble_eq_true rfl⟩) (preV hK hP (pos := 0) (ci := 6) rfl rfl) rfl rfl hl.1 rfl (lv_room (Nat.le_of_ble_eq_true rfl)) dX6_sumOfFacts_38 ⟨Nat.zero_le _, Nat.zero_le _⟩) ?_
            refine lv_iconst (v := (-1)) hx hb dX6_sumOfFacts_41 (by decide) ?_
            refine lv_icmp_ne (tgt := 58) hx hb dX6_sumOfFacts_42 (by decide) (fun c_42 => ?_) (fun c_42 => ?_)
            · refine lv_iinc (v := nI (i + 1)) (lv' := [(5, .int (nI (i + 1))), (0, .ref (q 0)), (1, .int p1), (2, .int p2), (3, .long tot)]) hx hb dX6_sumOfFacts_58 hl (k := 3) rfl (nI_1 i) (by decide) rfl (fun ls hl => ?_)
              refine lv_goto (tgt := 5) hx hb dX6_sumOfFacts_61 (by decide) ?_
              exact ih (i + 1) tot (by omega) (by rw [hE, flX6_sumOfFacts_5, if_neg c_27, if_neg c_31, if_neg c_42]) ls (lv_sub hl [1, 2, 3, 0, 4] rfl)
            · refine lv_lload_n hx hb dX6_sumOfFacts_45 rfl (lv_at hl 4 rfl) ?_
              refine lv_aload_n hx hb dX6_sumOfFacts_46 rfl (lv_at hl 0 rfl) ?_
              refine va_get (D := (dC, dI)) (ci := 6) (v := .ref (q 21)) (C := RX6) (T := TX6) (N := 6) hx hb hts inX6 hown hK hP 0 rfl rfl 3 (by decide) (hts _ fl_X6_35) (fun _ h9 => h9) rfl dX6_sumOfFacts_47 ?_
              refine lv_iload hx hb dX6_sumOfFacts_50 (lv_at hl 3 rfl) ?_
              refine xc_i (va_runV (As := [.int (nI i)]) (rest := [.long tot]) ⟨hx, hb, hml, hown, hts⟩ (c_X1_amountOf l dC dI cI cJ q σ (nI i) (vp_in_nI (by omega) (by decide))) (cwV 1 hts (gV ml_X6_161 im_X1_amountOf se_X1_amountOf in_X1 co_X1_amountOf) rfl rfl rfl (by decide +kernel) ⟨Nat.le_of_ble_eq_true rfl, Nat.le_of_ble_eq_true rfl⟩) (preV hK hP (pos := 21) (ci := 1) rfl rfl) rfl rfl hl.1 rfl (lv_room (Nat.le_of_ble_eq_true rfl)) dX6_sumOfFacts_52 ⟨Nat.zero_le _, Nat.zero_le _⟩) ?_
              refine lv_i2l (v := (σ.1 17 ((nI i).toNatClampNeg)).toInt64) hx hb dX6_sumOfFacts_55 rfl ?_
              refine lv_ladd hx hb dX6_sumOfFacts_56 ?_
              refine lv_lstore_n (lv' := [(3, .long (tot + ((σ.1 17 ((nI i).toNatClampNeg)).toInt64))), (0, .ref (q 0)), (1, .int p1), (2, .int p2), (5, .int (nI i))]) hx hb dX6_sumOfFacts_57 rfl hl (by decide) rfl (fun ls hl => ?_)
              refine lv_iinc (v := nI (i + 1)) (lv' := [(5, .int (nI (i + 1))), (3, .long (tot + ((σ.1 17 ((nI i).toNatClampNeg)).toInt64))), (0, .ref (q 0)), (1, .int p1), (2, .int p2)]) hx hb dX6_sumOfFacts_58 hl (k := 4) rfl (nI_1 i) (by decide) rfl (fun ls hl => ?_)
              refine lv_goto (tgt := 5) hx hb dX6_sumOfFacts_61 (by decide) ?_
              exact ih (i + 1) (tot + ((σ.1 17 ((nI i).toNatClampNeg)).toInt64)) (by omega) (by rw [hE, flX6_sumOfFacts_5, if_neg c_27, if_neg c_31, if_pos c_42]) ls (lv_sub hl [2, 3, 4, 0, 1] rfl)
  exact loop_5 ((σ.2.1 2).toNatClampNeg) 0 0 (by rw [Nat.zero_add]) (by rw [fX6_sumOfFacts]) ls (lv_sub hl [2, 3, 4, 0, 1] rfl)

def flX6_countLiving_6 (σ : St) (p1 : Int32) (p2 : Int32) (p3 : Int32) (p4 : Int32) (p5 : Int32) : Nat → Nat → Int32 → Int32
  | 0, i, n => n
  | k + 1, i, n => (if (fX5_livesOn σ (nI i) p1 p5) = p2 then (if (fX5_livesOn σ (nI i) p3 p5) = p4 then flX6_countLiving_6 σ p1 p2 p3 p4 p5 k (i + 1) (n + 1) else flX6_countLiving_6 σ p1 p2 p3 p4 p5 k (i + 1) n) else flX6_countLiving_6 σ p1 p2 p3 p4 p5 k (i + 1) n)
def fX6_countLiving (σ : St) (p1 : Int32) (p2 : Int32) (p3 : Int32) (p4 : Int32) (p5 : Int32) : Int32 :=
  flX6_countLiving_6 σ p1 p2 p3 p4 p5 ((σ.2.1 1).toNatClampNeg) 0 0
set_option maxHeartbeats 4000000 in
set_option maxRecDepth 100000 in
theorem c_X6_countLiving (l : Launch) (dC : Nat → ClassId) (dI : Nat → Nat → Nat) (cI cJ : ClassId) (q : Nat → Nat) (σ : St) (p1 : Int32) (p2 : Int32) (p3 : Int32) (p4 : Int32) (p5 : Int32) (hI : IB σ) : Met l yX6_countLiving (.code yX6_countLiving cX6_countLiving 8 (some .int) :: tb) { frames := 3, cells := 0, slots := 0, locals := 67 } (Pu (dC, dI) (tyC cI cJ) (wT cI cJ q σ) [.ref (q 0), .int p1, .int p2, .int p3, .int p4, .int p5]) (vp_Si (fun r => r = fX6_countLiving σ p1 p2 p3 p4 p5)) 0 0 (fun _ => False) := by
  refine Met.ofW (cc := cX6_countLiving) (maxL := 8) (ret := (some .int)) (by decide) rfl ?_
  intro p e s m args below meth c s₁ B hml hv
  obtain ⟨rfl, hP, hK⟩ := hv
  have hx := B.exec
  have hb := B.bytes
  have hr := B.returns
  have hts0 := atoms_spec (ws := .code yX6_countLiving cX6_countLiving 8 (some .int) :: tb) B.pre
  have hts : ∀ w ∈ tb, w.before _ s = true := fun w hw => hts0 w (List.mem_cons_of_mem _ hw)
  have hown : s.vm.findClass RX6 = some m.cls := findClass_of_methodNamed B.named
  have hlocks := B.notSynchronized
  have hl := lv_entry ([.ref (q 0), .int p1, .int p2, .int p3, .int p4, .int p5]) (n := 8) (Nat.le_of_ble_eq_true rfl)
  rw [lg_entry_eq]
  generalize (lg_sl ([.ref (q 0), .int p1, .int p2, .int p3, .int p4, .int p5]) ++ List.replicate (8 - (lg_sl ([.ref (q 0), .int p1, .int p2, .int p3, .int p4, .int p5])).length) Slot.unset).toArray = ls at hl ⊢
  have hl : lv_has ls 8 [(0, .ref (q 0)), (1, .int p1), (2, .int p2), (3, .int p3), (4, .int p4), (5, .int p5)] := hl
  refine lv_iconst (v := 0) hx hb dX6_countLiving_0 (by decide) ?_
  refine lv_istore (lv' := [(6, .int 0), (0, .ref (q 0)), (1, .int p1), (2, .int p2), (3, .int p3), (4, .int p4), (5, .int p5)]) hx hb dX6_countLiving_1 hl (by decide) rfl (fun ls hl => ?_)
  refine lv_iconst (v := 0) hx hb dX6_countLiving_3 (by decide) ?_
  refine lv_istore (lv' := [(7, .int 0), (6, .int 0), (0, .ref (q 0)), (1, .int p1), (2, .int p2), (3, .int p3), (4, .int p4), (5, .int p5)]) hx hb dX6_countLiving_4 hl (by decide) rfl (fun ls hl => ?_)
  have hz : szI (σ.2.1 1) 40 := hI.1
  have hz2 := hz.2
  have loop_6 : ∀ (k i : Nat) (n : Int32), i + k = (σ.2.1 1).toNatClampNeg → fX6_countLiving σ p1 p2 p3 p4 p5 = flX6_countLiving_6 σ p1 p2 p3 p4 p5 k i n → ∀ (ls : Array Slot), lv_has ls 8 [(0, .ref (q 0)), (1, .int p1), (2, .int p2), (3, .int p3), (4, .int p4), (5, .int p5), (7, .int (nI i)), (6, .int n)] → W p l e (headSpec (.code yX6_countLiving cX6_countLiving 8 (some .int) :: tb) { frames := 3, cells := 0, slots := 0, locals := 67 }).room s m (List.toArray [.ref (q 0), .int p1, .int p2, .int p3, .int p4, .int p5]) below meth c s.heap [] 0 0 (MQ below (vp_Si (fun r => r = fX6_countLiving σ p1 p2 p3 p4 p5)) (List.toArray [.ref (q 0), .int p1, .int p2, .int p3, .int p4, .int p5]) s 0 0 (fun _ => False)) (F0 m 6 ls []) := by
    intro k
    induction k with
    | zero =>
      intro i n hik hE ls hl
      refine lv_iload hx hb dX6_countLiving_6 (lv_at hl 6 rfl) ?_
      refine lv_aload_n hx hb dX6_countLiving_8 rfl (lv_at hl 0 rfl) ?_
      refine va_get (D := (dC, dI)) (ci := 6) (v := .ref (q 3)) (C := RX6) (T := TX6) (N := 6) hx hb hts inX6 hown hK hP 0 rfl rfl 1 (by decide) (hts _ fl_X6_19) (fun _ h9 => h9) rfl dX6_countLiving_9 ?_
      refine xc_i (va_runV (As := []) (rest := [.int (nI i)]) ⟨hx, hb, hml, hown, hts⟩ (c_X5_size l dC dI cI cJ q σ ) (cwV 0 hts (gV ml_X6_167 im_X5_size se_X5_size in_X5 co_X5_size) rfl rfl rfl (by decide +kernel) ⟨Nat.le_of_ble_eq_true rfl, Nat.le_of_ble_eq_true rfl⟩) (preV hK hP (pos := 3) (ci := 5) rfl rfl) rfl rfl hl.1 rfl (lv_room (Nat.le_of_ble_eq_true rfl)) dX6_countLiving_12 ⟨Nat.zero_le _, Nat.zero_le _⟩) ?_
      refine lv_icmp_ge (tgt := 60) hx hb dX6_countLiving_15 (by decide) (fun c_15 => ?_) (fun c_15 => ?_)
      · refine lv_iload hx hb dX6_countLiving_60 (lv_at hl 7 rfl) ?_
        exact W.iret (v := n) hx hb hr (fun t ht hW => ⟨_, rfl, (by rw [hE, flX6_countLiving_6]), ht⟩) (fun _ h => absurd h List.not_mem_nil) dX6_countLiving_62
      · exact absurd (by rw [hz.1]; exact nI_le (by omega) (by omega)) c_15
    | succ k ih =>
      intro i n hik hE ls hl
      refine lv_iload hx hb dX6_countLiving_6 (lv_at hl 6 rfl) ?_
      refine lv_aload_n hx hb dX6_countLiving_8 rfl (lv_at hl 0 rfl) ?_
      refine va_get (D := (dC, dI)) (ci := 6) (v := .ref (q 3)) (C := RX6) (T := TX6) (N := 6) hx hb hts inX6 hown hK hP 0 rfl rfl 1 (by decide) (hts _ fl_X6_19) (fun _ h9 => h9) rfl dX6_countLiving_9 ?_
      refine xc_i (va_runV (As := []) (rest := [.int (nI i)]) ⟨hx, hb, hml, hown, hts⟩ (c_X5_size l dC dI cI cJ q σ ) (cwV 0 hts (gV ml_X6_167 im_X5_size se_X5_size in_X5 co_X5_size) rfl rfl rfl (by decide +kernel) ⟨Nat.le_of_ble_eq_true rfl, Nat.le_of_ble_eq_true rfl⟩) (preV hK hP (pos := 3) (ci := 5) rfl rfl) rfl rfl hl.1 rfl (lv_room (Nat.le_of_ble_eq_true rfl)) dX6_countLiving_12 ⟨Nat.zero_le _, Nat.zero_le _⟩) ?_
      refine lv_icmp_ge (tgt := 60) hx hb dX6_countLiving_15 (by decide) (fun c_15 => ?_) (fun c_15 => ?_)
      · exact absurd c_15 (by rw [hz.1]; exact nI_ge (by omega) (by omega))
      · refine lv_aload_n hx hb dX6_countLiving_18 rfl (lv_at hl 0 rfl) ?_
        refine va_get (D := (dC, dI)) (ci := 6) (v := .ref (q 3)) (C := RX6) (T := TX6) (N := 6) hx hb hts inX6 hown hK hP 0 rfl rfl 1 (by decide) (hts _ fl_X6_19) (fun _ h9 => h9) rfl dX6_countLiving_19 ?_
        refine lv_iload hx hb dX6_countLiving_22 (lv_at hl 6 rfl) ?_
        refine lv_iload_n hx hb dX6_countLiving_24 rfl (lv_at hl 1 rfl) ?_
        refine lv_iload hx hb dX6_countLiving_25 (lv_at hl 5 rfl) ?_
        refine xc_i (va_runV (As := [.int (nI i), .int p1, .int p5]) (rest := []) ⟨hx, hb, hml, hown, hts⟩ (c_X5_livesOn l dC dI cI cJ q σ (nI i) p1 p5 (by assumption)) (cwV 3 hts (gV ml_X6_206 im_X5_livesOn se_X5_livesOn in_X5 co_X5_livesOn) rfl rfl rfl (by decide +kernel) ⟨Nat.le_of_ble_eq_true rfl, Nat.le_of_ble_eq_true rfl⟩) (preV hK hP (pos := 3) (ci := 5) rfl rfl) rfl rfl hl.1 rfl (lv_room (Nat.le_of_ble_eq_true rfl)) dX6_countLiving_27 ⟨Nat.zero_le _, Nat.zero_le _⟩) ?_
        refine lv_iload_n hx hb dX6_countLiving_30 rfl (lv_at hl 2 rfl) ?_
        refine lv_icmp_ne (tgt := 54) hx hb dX6_countLiving_31 (by decide) (fun c_31 => ?_) (fun c_31 => ?_)
        · refine lv_iinc (v := nI (i + 1)) (lv' := [(7, .int (nI (i + 1))), (0, .ref (q 0)), (1, .int p1), (2, .int p2), (3, .int p3), (4, .int p4), (5, .int p5), (6, .int n)]) hx hb dX6_countLiving_54 hl (k := 6) rfl (nI_1 i) (by decide) rfl (fun ls hl => ?_)
          refine lv_goto (tgt := 6) hx hb dX6_countLiving_57 (by decide) ?_
          exact ih (i + 1) n (by omega) (by rw [hE, flX6_countLiving_6, if_neg c_31]) ls (lv_sub hl [1, 2, 3, 4, 5, 6, 0, 7] rfl)
        · refine lv_aload_n hx hb dX6_countLiving_34 rfl (lv_at hl 0 rfl) ?_
          refine va_get (D := (dC, dI)) (ci := 6) (v := .ref (q 3)) (C := RX6) (T := TX6) (N := 6) hx hb hts inX6 hown hK hP 0 rfl rfl 1 (by decide) (hts _ fl_X6_19) (fun _ h9 => h9) rfl dX6_countLiving_35 ?_
          refine lv_iload hx hb dX6_countLiving_38 (lv_at hl 6 rfl) ?_
          refine lv_iload_n hx hb dX6_countLiving_40 rfl (lv_at hl 3 rfl) ?_
          refine lv_iload hx hb dX6_countLiving_41 (lv_at hl 5 rfl) ?_
          refine xc_i (va_runV (As := [.int (nI i), .int p3, .int p5]) (rest := []) ⟨hx, hb, hml, hown, hts⟩ (c_X5_livesOn l dC dI cI cJ q σ (nI i) p3 p5 (by assumption)) (cwV 3 hts (gV ml_X6_206 im_X5_livesOn se_X5_livesOn in_X5 co_X5_livesOn) rfl rfl rfl (by decide +kernel) ⟨Nat.le_of_ble_eq_true rfl, Nat.le_of_ble_eq_true rfl⟩) (preV hK hP (pos := 3) (ci := 5) rfl rfl) rfl rfl hl.1 rfl (lv_room (Nat.le_of_ble_eq_true rfl)) dX6_countLiving_43 ⟨Nat.zero_le _, Nat.zero_le _⟩) ?_
          refine lv_iload hx hb dX6_countLiving_46 (lv_at hl 4 rfl) ?_
          refine lv_icmp_ne (tgt := 54) hx hb dX6_countLiving_48 (by decide) (fun c_48 => ?_) (fun c_48 => ?_)
          · refine lv_iinc (v := nI (i + 1)) (lv' := [(7, .int (nI (i + 1))), (0, .ref (q 0)), (1, .int p1), (2, .int p2), (3, .int p3), (4, .int p4), (5, .int p5), (6, .int n)]) hx hb dX6_countLiving_54 hl (k := 6) rfl (nI_1 i) (by decide) rfl (fun ls hl => ?_)
            refine lv_goto (tgt := 6) hx hb dX6_countLiving_57 (by decide) ?_
            exact ih (i + 1) n (by omega) (by rw [hE, flX6_countLiving_6, if_pos c_31, if_neg c_48]) ls (lv_sub hl [1, 2, 3, 4, 5, 6, 0, 7] rfl)
          · refine lv_iinc (v := n + 1) (lv' := [(6, .int (n + 1)), (0, .ref (q 0)), (1, .int p1), (2, .int p2), (3, .int p3), (4, .int p4), (5, .int p5), (7, .int (nI i))]) hx hb dX6_countLiving_51 hl (k := 7) rfl rfl (by decide) rfl (fun ls hl => ?_)
            refine lv_iinc (v := nI (i + 1)) (lv' := [(7, .int (nI (i + 1))), (6, .int (n + 1)), (0, .ref (q 0)), (1, .int p1), (2, .int p2), (3, .int p3), (4, .int p4), (5, .int p5)]) hx hb dX6_countLiving_54 hl (k := 7) rfl (nI_1 i) (by decide) rfl (fun ls hl => ?_)
            refine lv_goto (tgt := 6) hx hb dX6_countLiving_57 (by decide) ?_
            exact ih (i + 1) (n + 1) (by omega) (by rw [hE, flX6_countLiving_6, if_pos c_31, if_pos c_48]) ls (lv_sub hl [2, 3, 4, 5, 6, 7, 0, 1] rfl)
  exact loop_6 ((σ.2.1 1).toNatClampNeg) 0 0 (by rw [Nat.zero_add]) (by rw [fX6_countLiving]) ls (lv_sub hl [2, 3, 4, 5, 6, 7, 0, 1] rfl)

def flX6_countMoved_6 (σ : St) (p1 : Int32) (p2 : Int32) (p3 : Int32) (p4 : Int32) : Nat → Nat → Int32 → Int32
  | 0, i, n => n
  | k + 1, i, n => (if (fX5_livesOn σ (nI i) p2 p4) = 0 then flX6_countMoved_6 σ p1 p2 p3 p4 k (i + 1) n else (if (fX5_livesOn σ (nI i) p3 p4) = 0 then flX6_countMoved_6 σ p1 p2 p3 p4 k (i + 1) n else (if (fX4_valueOn σ (nI i) p1 p2 p4) = (fX4_valueOn σ (nI i) p1 p3 p4) then flX6_countMoved_6 σ p1 p2 p3 p4 k (i + 1) n else flX6_countMoved_6 σ p1 p2 p3 p4 k (i + 1) (n + 1))))
def fX6_countMoved (σ : St) (p1 : Int32) (p2 : Int32) (p3 : Int32) (p4 : Int32) : Int32 :=
  flX6_countMoved_6 σ p1 p2 p3 p4 ((σ.2.1 1).toNatClampNeg) 0 0
set_option maxHeartbeats 4000000 in
set_option maxRecDepth 100000 in
theorem c_X6_countMoved (l : Launch) (dC : Nat → ClassId) (dI : Nat → Nat → Nat) (cI cJ : ClassId) (q : Nat → Nat) (σ : St) (p1 : Int32) (p2 : Int32) (p3 : Int32) (p4 : Int32) (hI : IB σ) : Met l yX6_countMoved (.code yX6_countMoved cX6_countMoved 7 (some .int) :: tb) { frames := 3, cells := 0, slots := 0, locals := 70 } (Pu (dC, dI) (tyC cI cJ) (wT cI cJ q σ) [.ref (q 0), .int p1, .int p2, .int p3, .int p4]) (vp_Si (fun r => r = fX6_countMoved σ p1 p2 p3 p4)) 0 0 (fun _ => False) := by
  refine Met.ofW (cc := cX6_countMoved) (maxL := 7) (ret := (some .int)) (by decide) rfl ?_
  intro p e s m args below meth c s₁ B hml hv
  obtain ⟨rfl, hP, hK⟩ := hv
  have hx := B.exec
  have hb := B.bytes
  have hr := B.returns
  have hts0 := atoms_spec (ws := .code yX6_countMoved cX6_countMoved 7 (some .int) :: tb) B.pre
  have hts : ∀ w ∈ tb, w.before _ s = true := fun w hw => hts0 w (List.mem_cons_of_mem _ hw)
  have hown : s.vm.findClass RX6 = some m.cls := findClass_of_methodNamed B.named
  have hlocks := B.notSynchronized
  have hl := lv_entry ([.ref (q 0), .int p1, .int p2, .int p3, .int p4]) (n := 7) (Nat.le_of_ble_eq_true rfl)
  rw [lg_entry_eq]
  generalize (lg_sl ([.ref (q 0), .int p1, .int p2, .int p3, .int p4]) ++ List.replicate (7 - (lg_sl ([.ref (q 0), .int p1, .int p2, .int p3, .int p4])).length) Slot.unset).toArray = ls at hl ⊢
  have hl : lv_has ls 7 [(0, .ref (q 0)), (1, .int p1), (2, .int p2), (3, .int p3), (4, .int p4)] := hl
  refine lv_iconst (v := 0) hx hb dX6_countMoved_0 (by decide) ?_
  refine lv_istore (lv' := [(5, .int 0), (0, .ref (q 0)), (1, .int p1), (2, .int p2), (3, .int p3), (4, .int p4)]) hx hb dX6_countMoved_1 hl (by decide) rfl (fun ls hl => ?_)
  refine lv_iconst (v := 0) hx hb dX6_countMoved_3 (by decide) ?_
  refine lv_istore (lv' := [(6, .int 0), (5, .int 0), (0, .ref (q 0)), (1, .int p1), (2, .int p2), (3, .int p3), (4, .int p4)]) hx hb dX6_countMoved_4 hl (by decide) rfl (fun ls hl => ?_)
  have hz : szI (σ.2.1 1) 40 := hI.1
  have hz2 := hz.2
  have loop_6 : ∀ (k i : Nat) (n : Int32), i + k = (σ.2.1 1).toNatClampNeg → fX6_countMoved σ p1 p2 p3 p4 = flX6_countMoved_6 σ p1 p2 p3 p4 k i n → ∀ (ls : Array Slot), lv_has ls 7 [(0, .ref (q 0)), (1, .int p1), (2, .int p2), (3, .int p3), (4, .int p4), (6, .int (nI i)), (5, .int n)] → W p l e (headSpec (.code yX6_countMoved cX6_countMoved 7 (some .int) :: tb) { frames := 3, cells := 0, slots := 0, locals := 70 }).room s m (List.toArray [.ref (q 0), .int p1, .int p2, .int p3, .int p4]) below meth c s.heap [] 0 0 (MQ below (vp_Si (fun r => r = fX6_countMoved σ p1 p2 p3 p4)) (List.toArray [.ref (q 0), .int p1, .int p2, .int p3, .int p4]) s 0 0 (fun _ => False)) (F0 m 6 ls []) := by
    intro k
    induction k with
    | zero =>
      intro i n hik hE ls hl
      refine lv_iload hx hb dX6_countMoved_6 (lv_at hl 5 rfl) ?_
      refine lv_aload_n hx hb dX6_countMoved_8 rfl (lv_at hl 0 rfl) ?_
      refine va_get (D := (dC, dI)) (ci := 6) (v := .ref (q 3)) (C := RX6) (T := TX6) (N := 6) hx hb hts inX6 hown hK hP 0 rfl rfl 1 (by decide) (hts _ fl_X6_19) (fun _ h9 => h9) rfl dX6_countMoved_9 ?_
      refine xc_i (va_runV (As := []) (rest := [.int (nI i)]) ⟨hx, hb, hml, hown, hts⟩ (c_X5_size l dC dI cI cJ q σ ) (cwV 0 hts (gV ml_X6_167 im_X5_size se_X5_size in_X5 co_X5_size) rfl rfl rfl (by decide +kernel) ⟨Nat.le_of_ble_eq_true rfl, Nat.le_of_ble_eq_true rfl⟩) (preV hK hP (pos := 3) (ci := 5) rfl rfl) rfl rfl hl.1 rfl (lv_room (Nat.le_of_ble_eq_true rfl)) dX6_countMoved_12 ⟨Nat.zero_le _, Nat.zero_le _⟩) ?_
      refine lv_icmp_ge (tgt := 86) hx hb dX6_countMoved_15 (by decide) (fun c_15 => ?_) (fun c_15 => ?_)
      · refine lv_iload hx hb dX6_countMoved_86 (lv_at hl 6 rfl) ?_
        exact W.iret (v := n) hx hb hr (fun t ht hW => ⟨_, rfl, (by rw [hE, flX6_countMoved_6]), ht⟩) (fun _ h => absurd h List.not_mem_nil) dX6_countMoved_88
      · exact absurd (by rw [hz.1]; exact nI_le (by omega) (by omega)) c_15
    | succ k ih =>
      intro i n hik hE ls hl
      refine lv_iload hx hb dX6_countMoved_6 (lv_at hl 5 rfl) ?_
      refine lv_aload_n hx hb dX6_countMoved_8 rfl (lv_at hl 0 rfl) ?_
      refine va_get (D := (dC, dI)) (ci := 6) (v := .ref (q 3)) (C := RX6) (T := TX6) (N := 6) hx hb hts inX6 hown hK hP 0 rfl rfl 1 (by decide) (hts _ fl_X6_19) (fun _ h9 => h9) rfl dX6_countMoved_9 ?_
      refine xc_i (va_runV (As := []) (rest := [.int (nI i)]) ⟨hx, hb, hml, hown, hts⟩ (c_X5_size l dC dI cI cJ q σ ) (cwV 0 hts (gV ml_X6_167 im_X5_size se_X5_size in_X5 co_X5_size) rfl rfl rfl (by decide +kernel) ⟨Nat.le_of_ble_eq_true rfl, Nat.le_of_ble_eq_true rfl⟩) (preV hK hP (pos := 3) (ci := 5) rfl rfl) rfl rfl hl.1 rfl (lv_room (Nat.le_of_ble_eq_true rfl)) dX6_countMoved_12 ⟨Nat.zero_le _, Nat.zero_le _⟩) ?_
      refine lv_icmp_ge (tgt := 86) hx hb dX6_countMoved_15 (by decide) (fun c_15 => ?_) (fun c_15 => ?_)
      · exact absurd c_15 (by rw [hz.1]; exact nI_ge (by omega) (by omega))
      · refine lv_aload_n hx hb dX6_countMoved_18 rfl (lv_at hl 0 rfl) ?_
        refine va_get (D := (dC, dI)) (ci := 6) (v := .ref (q 3)) (C := RX6) (T := TX6) (N := 6) hx hb hts inX6 hown hK hP 0 rfl rfl 1 (by decide) (hts _ fl_X6_19) (fun _ h9 => h9) rfl dX6_countMoved_19 ?_
        refine lv_iload hx hb dX6_countMoved_22 (lv_at hl 5 rfl) ?_
        refine lv_iload_n hx hb dX6_countMoved_24 rfl (lv_at hl 2 rfl) ?_
        refine lv_iload hx hb dX6_countMoved_25 (lv_at hl 4 rfl) ?_
        refine xc_i (va_runV (As := [.int (nI i), .int p2, .int p4]) (rest := []) ⟨hx, hb, hml, hown, hts⟩ (c_X5_livesOn l dC dI cI cJ q σ (nI i) p2 p4 (by assumption)) (cwV 3 hts (gV ml_X6_206 im_X5_livesOn se_X5_livesOn in_X5 co_X5_livesOn) rfl rfl rfl (by decide +kernel) ⟨Nat.le_of_ble_eq_true rfl, Nat.le_of_ble_eq_true rfl⟩) (preV hK hP (pos := 3) (ci := 5) rfl rfl) rfl rfl hl.1 rfl (lv_room (Nat.le_of_ble_eq_true rfl)) dX6_countMoved_27 ⟨Nat.zero_le _, Nat.zero_le _⟩) ?_
        refine lv_if_eq (tgt := 80) hx hb dX6_countMoved_30 (by decide) (fun c_30 => ?_) (fun c_30 => ?_)
        · refine lv_iinc (v := nI (i + 1)) (lv' := [(6, .int (nI (i + 1))), (0, .ref (q 0)), (1, .int p1), (2, .int p2), (3, .int p3), (4, .int p4), (5, .int n)]) hx hb dX6_countMoved_80 hl (k := 5) rfl (nI_1 i) (by decide) rfl (fun ls hl => ?_)
          refine lv_goto (tgt := 6) hx hb dX6_countMoved_83 (by decide) ?_
          exact ih (i + 1) n (by omega) (by rw [hE, flX6_countMoved_6, if_pos c_30]) ls (lv_sub hl [1, 2, 3, 4, 5, 0, 6] rfl)
        · refine lv_aload_n hx hb dX6_countMoved_33 rfl (lv_at hl 0 rfl) ?_
          refine va_get (D := (dC, dI)) (ci := 6) (v := .ref (q 3)) (C := RX6) (T := TX6) (N := 6) hx hb hts inX6 hown hK hP 0 rfl rfl 1 (by decide) (hts _ fl_X6_19) (fun _ h9 => h9) rfl dX6_countMoved_34 ?_
          refine lv_iload hx hb dX6_countMoved_37 (lv_at hl 5 rfl) ?_
          refine lv_iload_n hx hb dX6_countMoved_39 rfl (lv_at hl 3 rfl) ?_
          refine lv_iload hx hb dX6_countMoved_40 (lv_at hl 4 rfl) ?_
          refine xc_i (va_runV (As := [.int (nI i), .int p3, .int p4]) (rest := []) ⟨hx, hb, hml, hown, hts⟩ (c_X5_livesOn l dC dI cI cJ q σ (nI i) p3 p4 (by assumption)) (cwV 3 hts (gV ml_X6_206 im_X5_livesOn se_X5_livesOn in_X5 co_X5_livesOn) rfl rfl rfl (by decide +kernel) ⟨Nat.le_of_ble_eq_true rfl, Nat.le_of_ble_eq_true rfl⟩) (preV hK hP (pos := 3) (ci := 5) rfl rfl) rfl rfl hl.1 rfl (lv_room (Nat.le_of_ble_eq_true rfl)) dX6_countMoved_42 ⟨Nat.zero_le _, Nat.zero_le _⟩) ?_
          refine lv_if_eq (tgt := 80) hx hb dX6_countMoved_45 (by decide) (fun c_45 => ?_) (fun c_45 => ?_)
          · refine lv_iinc (v := nI (i + 1)) (lv' := [(6, .int (nI (i + 1))), (0, .ref (q 0)), (1, .int p1), (2, .int p2), (3, .int p3), (4, .int p4), (5, .int n)]) hx hb dX6_countMoved_80 hl (k := 5) rfl (nI_1 i) (by decide) rfl (fun ls hl => ?_)
            refine lv_goto (tgt := 6) hx hb dX6_countMoved_83 (by decide) ?_
            exact ih (i + 1) n (by omega) (by rw [hE, flX6_countMoved_6, if_neg c_30, if_pos c_45]) ls (lv_sub hl [1, 2, 3, 4, 5, 0, 6] rfl)
          · refine lv_aload_n hx hb dX6_countMoved_48 rfl (lv_at hl 0 rfl) ?_
            refine va_get (D := (dC, dI)) (ci := 6) (v := .ref (q 13)) (C := RX6) (T := TX6) (N := 6) hx hb hts inX6 hown hK hP 0 rfl rfl 2 (by decide) (hts _ fl_X6_28) (fun _ h9 => h9) rfl dX6_countMoved_49 ?_
            refine lv_iload hx hb dX6_countMoved_52 (lv_at hl 5 rfl) ?_
            refine lv_iload_n hx hb dX6_countMoved_54 rfl (lv_at hl 1 rfl) ?_
            refine lv_iload_n hx hb dX6_countMoved_55 rfl (lv_at hl 2 rfl) ?_
            refine lv_iload hx hb dX6_countMoved_56 (lv_at hl 4 rfl) ?_
            refine xc_i (va_runV (As := [.int (nI i), .int p1, .int p2, .int p4]) (rest := []) ⟨hx, hb, hml, hown, hts⟩ (c_X4_valueOn l dC dI cI cJ q σ (nI i) p1 p2 p4 (by assumption)) (cwV 4 hts (gV ml_X6_123 im_X4_valueOn se_X4_valueOn in_X4 co_X4_valueOn) rfl rfl rfl (by decide +kernel) ⟨Nat.le_of_ble_eq_true rfl, Nat.le_of_ble_eq_true rfl⟩) (preV hK hP (pos := 13) (ci := 4) rfl rfl) rfl rfl hl.1 rfl (lv_room (Nat.le_of_ble_eq_true rfl)) dX6_countMoved_58 ⟨Nat.zero_le _, Nat.zero_le _⟩) ?_
            refine lv_aload_n hx hb dX6_countMoved_61 rfl (lv_at hl 0 rfl) ?_
            refine va_get (D := (dC, dI)) (ci := 6) (v := .ref (q 13)) (C := RX6) (T := TX6) (N := 6) hx hb hts inX6 hown hK hP 0 rfl rfl 2 (by decide) (hts _ fl_X6_28) (fun _ h9 => h9) rfl dX6_countMoved_62 ?_
            refine lv_iload hx hb dX6_countMoved_65 (lv_at hl 5 rfl) ?_
            refine lv_iload_n hx hb dX6_countMoved_67 rfl (lv_at hl 1 rfl) ?_
            refine lv_iload_n hx hb dX6_countMoved_68 rfl (lv_at hl 3 rfl) ?_
            refine lv_iload hx hb dX6_countMoved_69 (lv_at hl 4 rfl) ?_
            refine xc_i (va_runV (As := [.int (nI i), .int p1, .int p3, .int p4]) (rest := [.int (fX4_valueOn σ (nI i) p1 p2 p4)]) ⟨hx, hb, hml, hown, hts⟩ (c_X4_valueOn l dC dI cI cJ q σ (nI i) p1 p3 p4 (by assumption)) (cwV 4 hts (gV ml_X6_123 im_X4_valueOn se_X4_valueOn in_X4 co_X4_valueOn) rfl rfl rfl (by decide +kernel) ⟨Nat.le_of_ble_eq_true rfl, Nat.le_of_ble_eq_true rfl⟩) (preV hK hP (pos := 13) (ci := 4) rfl rfl) rfl rfl hl.1 rfl (lv_room (Nat.le_of_ble_eq_true rfl)) dX6_countMoved_71 ⟨Nat.zero_le _, Nat.zero_le _⟩) ?_
            refine lv_icmp_eq (tgt := 80) hx hb dX6_countMoved_74 (by decide) (fun c_74 => ?_) (fun c_74 => ?_)
            · refine lv_iinc (v := nI (i + 1)) (lv' := [(6, .int (nI (i + 1))), (0, .ref (q 0)), (1, .int p1), (2, .int p2), (3, .int p3), (4, .int p4), (5, .int n)]) hx hb dX6_countMoved_80 hl (k := 5) rfl (nI_1 i) (by decide) rfl (fun ls hl => ?_)
              refine lv_goto (tgt := 6) hx hb dX6_countMoved_83 (by decide) ?_
              exact ih (i + 1) n (by omega) (by rw [hE, flX6_countMoved_6, if_neg c_30, if_neg c_45, if_pos c_74]) ls (lv_sub hl [1, 2, 3, 4, 5, 0, 6] rfl)
            · refine lv_iinc (v := n + 1) (lv' := [(5, .int (n + 1)), (0, .ref (q 0)), (1, .int p1), (2, .int p2), (3, .int p3), (4, .int p4), (6, .int (nI i))]) hx hb dX6_countMoved_77 hl (k := 6) rfl rfl (by decide) rfl (fun ls hl => ?_)
              refine lv_iinc (v := nI (i + 1)) (lv' := [(6, .int (nI (i + 1))), (5, .int (n + 1)), (0, .ref (q 0)), (1, .int p1), (2, .int p2), (3, .int p3), (4, .int p4)]) hx hb dX6_countMoved_80 hl (k := 6) rfl (nI_1 i) (by decide) rfl (fun ls hl => ?_)
              refine lv_goto (tgt := 6) hx hb dX6_countMoved_83 (by decide) ?_
              exact ih (i + 1) (n + 1) (by omega) (by rw [hE, flX6_countMoved_6, if_neg c_30, if_neg c_45, if_neg c_74]) ls (lv_sub hl [2, 3, 4, 5, 6, 0, 1] rfl)
  exact loop_6 ((σ.2.1 1).toNatClampNeg) 0 0 (by rw [Nat.zero_add]) (by rw [fX6_countMoved]) ls (lv_sub hl [2, 3, 4, 5, 6, 0, 1] rfl)

def fX6_compare (σ : St) (p1 : Int32) (p2 : Int32) (p3 : Int32) (p4 : Int32) (p5 : Int32) : Int32 :=
  (if (fX6_isMark σ p1) = 0 then (-1) else (if (fX6_isDay σ p2) = 0 then (-1) else (if (fX6_isDay σ p3) = 0 then (-1) else (if (fX6_isDay σ p4) = 0 then (-1) else (if p5 = 0 then fX6_countLiving σ p2 1 p3 1 p4 else (if p5 = 1 then fX6_countLiving σ p2 0 p3 1 p4 else (if p5 = 2 then fX6_countLiving σ p2 1 p3 0 p4 else (if p5 = 3 then fX6_countMoved σ p1 p2 p3 p4 else (-1)))))))))
set_option maxHeartbeats 4000000 in
set_option maxRecDepth 100000 in
theorem c_X6_compare (l : Launch) (dC : Nat → ClassId) (dI : Nat → Nat → Nat) (cI cJ : ClassId) (q : Nat → Nat) (σ : St) (p1 : Int32) (p2 : Int32) (p3 : Int32) (p4 : Int32) (p5 : Int32) (hI : IB σ) : Met l yX6_compare (.code yX6_compare cX6_compare 6 (some .int) :: tb) { frames := 4, cells := 0, slots := 0, locals := 96 } (Pu (dC, dI) (tyC cI cJ) (wT cI cJ q σ) [.ref (q 0), .int p1, .int p2, .int p3, .int p4, .int p5]) (vp_Si (fun r => r = fX6_compare σ p1 p2 p3 p4 p5)) 0 0 (fun _ => False) := by
  refine Met.ofW (cc := cX6_compare) (maxL := 6) (ret := (some .int)) (by decide) rfl ?_
  intro p e s m args below meth c s₁ B hml hv
  obtain ⟨rfl, hP, hK⟩ := hv
  have hx := B.exec
  have hb := B.bytes
  have hr := B.returns
  have hts0 := atoms_spec (ws := .code yX6_compare cX6_compare 6 (some .int) :: tb) B.pre
  have hts : ∀ w ∈ tb, w.before _ s = true := fun w hw => hts0 w (List.mem_cons_of_mem _ hw)
  have hown : s.vm.findClass RX6 = some m.cls := findClass_of_methodNamed B.named
  have hlocks := B.notSynchronized
  have hl := lv_entry ([.ref (q 0), .int p1, .int p2, .int p3, .int p4, .int p5]) (n := 6) (Nat.le_of_ble_eq_true rfl)
  rw [lg_entry_eq]
  generalize (lg_sl ([.ref (q 0), .int p1, .int p2, .int p3, .int p4, .int p5]) ++ List.replicate (6 - (lg_sl ([.ref (q 0), .int p1, .int p2, .int p3, .int p4, .int p5])).length) Slot.unset).toArray = ls at hl ⊢
  have hl : lv_has ls 6 [(0, .ref (q 0)), (1, .int p1), (2, .int p2), (3, .int p3), (4, .int p4), (5, .int p5)] := hl
  refine lv_iload_n hx hb dX6_compare_0 rfl (lv_at hl 1 rfl) ?_
  refine xc_i (va_runS (As := [.int p1]) (rest := []) ⟨hx, hb, hml, hown, hts⟩ (c_X6_isMark l dC dI cI cJ q σ p1) (va_cwS 1 hts (gS ml_X6_89 st_X6_isMark in_X6 co_X6_isMark) rfl rfl rfl (by decide +kernel) ⟨Nat.le_of_ble_eq_true rfl, Nat.le_of_ble_eq_true rfl⟩) (preS hK hP) rfl rfl hl.1 rfl (lv_room (Nat.le_of_ble_eq_true rfl)) dX6_compare_1 ⟨Nat.zero_le _, Nat.zero_le _⟩) ?_
  refine lv_if_eq (tgt := 29) hx hb dX6_compare_4 (by decide) (fun c_4 => ?_) (fun c_4 => ?_)
  · refine lv_iconst (v := (-1)) hx hb dX6_compare_29 (by decide) ?_
    exact W.iret (v := (-1)) hx hb hr (fun t ht hW => ⟨_, rfl, (by rw [fX6_compare, if_pos c_4]), ht⟩) (fun _ h => absurd h List.not_mem_nil) dX6_compare_30
  · refine lv_iload_n hx hb dX6_compare_7 rfl (lv_at hl 2 rfl) ?_
    refine xc_i (va_runS (As := [.int p2]) (rest := []) ⟨hx, hb, hml, hown, hts⟩ (c_X6_isDay l dC dI cI cJ q σ p2) (va_cwS 1 hts (gS ml_X6_56 st_X6_isDay in_X6 co_X6_isDay) rfl rfl rfl (by decide +kernel) ⟨Nat.le_of_ble_eq_true rfl, Nat.le_of_ble_eq_true rfl⟩) (preS hK hP) rfl rfl hl.1 rfl (lv_room (Nat.le_of_ble_eq_true rfl)) dX6_compare_8 ⟨Nat.zero_le _, Nat.zero_le _⟩) ?_
    refine lv_if_eq (tgt := 29) hx hb dX6_compare_11 (by decide) (fun c_11 => ?_) (fun c_11 => ?_)
    · refine lv_iconst (v := (-1)) hx hb dX6_compare_29 (by decide) ?_
      exact W.iret (v := (-1)) hx hb hr (fun t ht hW => ⟨_, rfl, (by rw [fX6_compare, if_neg c_4, if_pos c_11]), ht⟩) (fun _ h => absurd h List.not_mem_nil) dX6_compare_30
    · refine lv_iload_n hx hb dX6_compare_14 rfl (lv_at hl 3 rfl) ?_
      refine xc_i (va_runS (As := [.int p3]) (rest := []) ⟨hx, hb, hml, hown, hts⟩ (c_X6_isDay l dC dI cI cJ q σ p3) (va_cwS 1 hts (gS ml_X6_56 st_X6_isDay in_X6 co_X6_isDay) rfl rfl rfl (by decide +kernel) ⟨Nat.le_of_ble_eq_true rfl, Nat.le_of_ble_eq_true rfl⟩) (preS hK hP) rfl rfl hl.1 rfl (lv_room (Nat.le_of_ble_eq_true rfl)) dX6_compare_15 ⟨Nat.zero_le _, Nat.zero_le _⟩) ?_
      refine lv_if_eq (tgt := 29) hx hb dX6_compare_18 (by decide) (fun c_18 => ?_) (fun c_18 => ?_)
      · refine lv_iconst (v := (-1)) hx hb dX6_compare_29 (by decide) ?_
        exact W.iret (v := (-1)) hx hb hr (fun t ht hW => ⟨_, rfl, (by rw [fX6_compare, if_neg c_4, if_neg c_11, if_pos c_18]), ht⟩) (fun _ h => absurd h List.not_mem_nil) dX6_compare_30
      · refine lv_iload hx hb dX6_compare_21 (lv_at hl 4 rfl) ?_
        refine xc_i (va_runS (As := [.int p4]) (rest := []) ⟨hx, hb, hml, hown, hts⟩ (c_X6_isDay l dC dI cI cJ q σ p4) (va_cwS 1 hts (gS ml_X6_56 st_X6_isDay in_X6 co_X6_isDay) rfl rfl rfl (by decide +kernel) ⟨Nat.le_of_ble_eq_true rfl, Nat.le_of_ble_eq_true rfl⟩) (preS hK hP) rfl rfl hl.1 rfl (lv_room (Nat.le_of_ble_eq_true rfl)) dX6_compare_23 ⟨Nat.zero_le _, Nat.zero_le _⟩) ?_
        refine lv_if_ne (tgt := 31) hx hb dX6_compare_26 (by decide) (fun c_26 => ?_) (fun c_26 => ?_)
        · refine lv_iload hx hb dX6_compare_31 (lv_at hl 5 rfl) ?_
          by_cases c_33_0 : p5 = 0
          · refine xs_in (tgt := 64) hx hb 0 c_33_0 dX6_compare_33 (by decide) (by decide) rfl (by decide) ?_
            refine lv_aload_n hx hb dX6_compare_64 rfl (lv_at hl 0 rfl) ?_
            refine lv_iload_n hx hb dX6_compare_65 rfl (lv_at hl 2 rfl) ?_
            refine lv_iconst (v := 1) hx hb dX6_compare_66 (by decide) ?_
            refine lv_iload_n hx hb dX6_compare_67 rfl (lv_at hl 3 rfl) ?_
            refine lv_iconst (v := 1) hx hb dX6_compare_68 (by decide) ?_
            refine lv_iload hx hb dX6_compare_69 (lv_at hl 4 rfl) ?_
            refine xc_i (va_runV (As := [.int p2, .int 1, .int p3, .int 1, .int p4]) (rest := []) ⟨hx, hb, hml, hown, hts⟩ (c_X6_countLiving l dC dI cI cJ q σ p2 1 p3 1 p4 (by assumption)) (cwV 5 hts (gV ml_X6_180 im_X6_countLiving se_X6_countLiving in_X6 co_X6_countLiving) rfl rfl rfl (by decide +kernel) ⟨Nat.le_of_ble_eq_true rfl, Nat.le_of_ble_eq_true rfl⟩) (preV hK hP (pos := 0) (ci := 6) rfl rfl) rfl rfl hl.1 rfl (lv_room (Nat.le_of_ble_eq_true rfl)) dX6_compare_71 ⟨Nat.zero_le _, Nat.zero_le _⟩) ?_
            exact W.iret (v := fX6_countLiving σ p2 1 p3 1 p4) hx hb hr (fun t ht hW => ⟨_, rfl, (by rw [fX6_compare, if_neg c_4, if_neg c_11, if_neg c_18, if_neg c_26, if_pos c_33_0]), ht⟩) (fun _ h => absurd h List.not_mem_nil) dX6_compare_74
          by_cases c_33_1 : p5 = 1
          · refine xs_in (tgt := 75) hx hb 1 c_33_1 dX6_compare_33 (by decide) (by decide) rfl (by decide) ?_
            refine lv_aload_n hx hb dX6_compare_75 rfl (lv_at hl 0 rfl) ?_
            refine lv_iload_n hx hb dX6_compare_76 rfl (lv_at hl 2 rfl) ?_
            refine lv_iconst (v := 0) hx hb dX6_compare_77 (by decide) ?_
            refine lv_iload_n hx hb dX6_compare_78 rfl (lv_at hl 3 rfl) ?_
            refine lv_iconst (v := 1) hx hb dX6_compare_79 (by decide) ?_
            refine lv_iload hx hb dX6_compare_80 (lv_at hl 4 rfl) ?_
            refine xc_i (va_runV (As := [.int p2, .int 0, .int p3, .int 1, .int p4]) (rest := []) ⟨hx, hb, hml, hown, hts⟩ (c_X6_countLiving l dC dI cI cJ q σ p2 0 p3 1 p4 (by assumption)) (cwV 5 hts (gV ml_X6_180 im_X6_countLiving se_X6_countLiving in_X6 co_X6_countLiving) rfl rfl rfl (by decide +kernel) ⟨Nat.le_of_ble_eq_true rfl, Nat.le_of_ble_eq_true rfl⟩) (preV hK hP (pos := 0) (ci := 6) rfl rfl) rfl rfl hl.1 rfl (lv_room (Nat.le_of_ble_eq_true rfl)) dX6_compare_82 ⟨Nat.zero_le _, Nat.zero_le _⟩) ?_
            exact W.iret (v := fX6_countLiving σ p2 0 p3 1 p4) hx hb hr (fun t ht hW => ⟨_, rfl, (by rw [fX6_compare, if_neg c_4, if_neg c_11, if_neg c_18, if_neg c_26, if_neg c_33_0, if_pos c_33_1]), ht⟩) (fun _ h => absurd h List.not_mem_nil) dX6_compare_85
          by_cases c_33_2 : p5 = 2
          · refine xs_in (tgt := 86) hx hb 2 c_33_2 dX6_compare_33 (by decide) (by decide) rfl (by decide) ?_
            refine lv_aload_n hx hb dX6_compare_86 rfl (lv_at hl 0 rfl) ?_
            refine lv_iload_n hx hb dX6_compare_87 rfl (lv_at hl 2 rfl) ?_
            refine lv_iconst (v := 1) hx hb dX6_compare_88 (by decide) ?_
            refine lv_iload_n hx hb dX6_compare_89 rfl (lv_at hl 3 rfl) ?_
            refine lv_iconst (v := 0) hx hb dX6_compare_90 (by decide) ?_
            refine lv_iload hx hb dX6_compare_91 (lv_at hl 4 rfl) ?_
            refine xc_i (va_runV (As := [.int p2, .int 1, .int p3, .int 0, .int p4]) (rest := []) ⟨hx, hb, hml, hown, hts⟩ (c_X6_countLiving l dC dI cI cJ q σ p2 1 p3 0 p4 (by assumption)) (cwV 5 hts (gV ml_X6_180 im_X6_countLiving se_X6_countLiving in_X6 co_X6_countLiving) rfl rfl rfl (by decide +kernel) ⟨Nat.le_of_ble_eq_true rfl, Nat.le_of_ble_eq_true rfl⟩) (preV hK hP (pos := 0) (ci := 6) rfl rfl) rfl rfl hl.1 rfl (lv_room (Nat.le_of_ble_eq_true rfl)) dX6_compare_93 ⟨Nat.zero_le _, Nat.zero_le _⟩) ?_
            exact W.iret (v := fX6_countLiving σ p2 1 p3 0 p4) hx hb hr (fun t ht hW => ⟨_, rfl, (by rw [fX6_compare, if_neg c_4, if_neg c_11, if_neg c_18, if_neg c_26, if_neg c_33_0, if_neg c_33_1, if_pos c_33_2]), ht⟩) (fun _ h => absurd h List.not_mem_nil) dX6_compare_96
          by_cases c_33_3 : p5 = 3
          · refine xs_in (tgt := 97) hx hb 3 c_33_3 dX6_compare_33 (by decide) (by decide) rfl (by decide) ?_
            refine lv_aload_n hx hb dX6_compare_97 rfl (lv_at hl 0 rfl) ?_
            refine lv_iload_n hx hb dX6_compare_98 rfl (lv_at hl 1 rfl) ?_
            refine lv_iload_n hx hb dX6_compare_99 rfl (lv_at hl 2 rfl) ?_
            refine lv_iload_n hx hb dX6_compare_100 rfl (lv_at hl 3 rfl) ?_
            refine lv_iload hx hb dX6_compare_101 (lv_at hl 4 rfl) ?_
            refine xc_i (va_runV (As := [.int p1, .int p2, .int p3, .int p4]) (rest := []) ⟨hx, hb, hml, hown, hts⟩ (c_X6_countMoved l dC dI cI cJ q σ p1 p2 p3 p4 (by assumption)) (cwV 4 hts (gV ml_X6_184 im_X6_countMoved se_X6_countMoved in_X6 co_X6_countMoved) rfl rfl rfl (by decide +kernel) ⟨Nat.le_of_ble_eq_true rfl, Nat.le_of_ble_eq_true rfl⟩) (preV hK hP (pos := 0) (ci := 6) rfl rfl) rfl rfl hl.1 rfl (lv_room (Nat.le_of_ble_eq_true rfl)) dX6_compare_103 ⟨Nat.zero_le _, Nat.zero_le _⟩) ?_
            exact W.iret (v := fX6_countMoved σ p1 p2 p3 p4) hx hb hr (fun t ht hW => ⟨_, rfl, (by rw [fX6_compare, if_neg c_4, if_neg c_11, if_neg c_18, if_neg c_26, if_neg c_33_0, if_neg c_33_1, if_neg c_33_2, if_pos c_33_3]), ht⟩) (fun _ h => absurd h List.not_mem_nil) dX6_compare_106
          refine lv_tableOut (tgt := 107) hx hb dX6_compare_33 (xs_out (n := 4) (by decide) (fun k hk => by
              match k, hk with
              | 0, _ => exact c_33_0
              | 1, _ => exact c_33_1
              | 2, _ => exact c_33_2
              | 3, _ => exact c_33_3
              | k + 4, h => exact absurd h (by omega))) (by decide) ?_
          refine lv_iconst (v := (-1)) hx hb dX6_compare_107 (by decide) ?_
          exact W.iret (v := (-1)) hx hb hr (fun t ht hW => ⟨_, rfl, (by rw [fX6_compare, if_neg c_4, if_neg c_11, if_neg c_18, if_neg c_26, if_neg c_33_0, if_neg c_33_1, if_neg c_33_2, if_neg c_33_3]), ht⟩) (fun _ h => absurd h List.not_mem_nil) dX6_compare_108
        · refine lv_iconst (v := (-1)) hx hb dX6_compare_29 (by decide) ?_
          exact W.iret (v := (-1)) hx hb hr (fun t ht hW => ⟨_, rfl, (by rw [fX6_compare, if_neg c_4, if_neg c_11, if_neg c_18, if_pos c_26]), ht⟩) (fun _ h => absurd h List.not_mem_nil) dX6_compare_30

def fX6_count (σ : St) (p1 : Int32) : Int32 :=
  (if p1 = 0 then σ.2.1 0 else (if p1 = 1 then σ.2.1 1 else (if p1 = 2 then σ.2.1 2 else (if p1 = 3 then σ.2.1 3 else (if p1 = 4 then (σ.2.1 4) - 1 else (if p1 = 5 then σ.2.1 5 else (-1)))))))
set_option maxHeartbeats 4000000 in
set_option maxRecDepth 100000 in
theorem c_X6_count (l : Launch) (dC : Nat → ClassId) (dI : Nat → Nat → Nat) (cI cJ : ClassId) (q : Nat → Nat) (σ : St) (p1 : Int32) : Met l yX6_count (.code yX6_count cX6_count 2 (some .int) :: tb) { frames := 2, cells := 0, slots := 0, locals := 40 } (Pu (dC, dI) (tyC cI cJ) (wT cI cJ q σ) [.ref (q 0), .int p1]) (vp_Si (fun r => r = fX6_count σ p1)) 0 0 (fun _ => False) := by
  refine Met.ofW (cc := cX6_count) (maxL := 2) (ret := (some .int)) (by decide) rfl ?_
  intro p e s m args below meth c s₁ B hml hv
  obtain ⟨rfl, hP, hK⟩ := hv
  have hx := B.exec
  have hb := B.bytes
  have hr := B.returns
  have hts0 := atoms_spec (ws := .code yX6_count cX6_count 2 (some .int) :: tb) B.pre
  have hts : ∀ w ∈ tb, w.before _ s = true := fun w hw => hts0 w (List.mem_cons_of_mem _ hw)
  have hown : s.vm.findClass RX6 = some m.cls := findClass_of_methodNamed B.named
  have hlocks := B.notSynchronized
  have hl := lv_entry ([.ref (q 0), .int p1]) (n := 2) (Nat.le_of_ble_eq_true rfl)
  rw [lg_entry_eq]
  generalize (lg_sl ([.ref (q 0), .int p1]) ++ List.replicate (2 - (lg_sl ([.ref (q 0), .int p1])).length) Slot.unset).toArray = ls at hl ⊢
  have hl : lv_has ls 2 [(0, .ref (q 0)), (1, .int p1)] := hl
  refine lv_iload_n hx hb dX6_count_0 rfl (lv_at hl 1 rfl) ?_
  by_cases c_1_0 : p1 = 0
  · refine xs_in (tgt := 40) hx hb 0 c_1_0 dX6_count_1 (by decide) (by decide) rfl (by decide) ?_
    refine lv_aload_n hx hb dX6_count_40 rfl (lv_at hl 0 rfl) ?_
    refine va_get (D := (dC, dI)) (ci := 6) (v := .int (σ.2.1 0)) (C := RX6) (T := TX6) (N := 6) hx hb hts inX6 hown hK hP 0 rfl rfl 5 (by decide) (hts _ fl_X6_48) (fun _ h9 => h9) rfl dX6_count_41 ?_
    exact W.iret (v := σ.2.1 0) hx hb hr (fun t ht hW => ⟨_, rfl, (by rw [fX6_count, if_pos c_1_0]), ht⟩) (fun _ h => absurd h List.not_mem_nil) dX6_count_44
  by_cases c_1_1 : p1 = 1
  · refine xs_in (tgt := 45) hx hb 1 c_1_1 dX6_count_1 (by decide) (by decide) rfl (by decide) ?_
    refine lv_aload_n hx hb dX6_count_45 rfl (lv_at hl 0 rfl) ?_
    refine va_get (D := (dC, dI)) (ci := 6) (v := .ref (q 3)) (C := RX6) (T := TX6) (N := 6) hx hb hts inX6 hown hK hP 0 rfl rfl 1 (by decide) (hts _ fl_X6_19) (fun _ h9 => h9) rfl dX6_count_46 ?_
    refine xc_i (va_runV (As := []) (rest := []) ⟨hx, hb, hml, hown, hts⟩ (c_X5_size l dC dI cI cJ q σ ) (cwV 0 hts (gV ml_X6_167 im_X5_size se_X5_size in_X5 co_X5_size) rfl rfl rfl (by decide +kernel) ⟨Nat.le_of_ble_eq_true rfl, Nat.le_of_ble_eq_true rfl⟩) (preV hK hP (pos := 3) (ci := 5) rfl rfl) rfl rfl hl.1 rfl (lv_room (Nat.le_of_ble_eq_true rfl)) dX6_count_49 ⟨Nat.zero_le _, Nat.zero_le _⟩) ?_
    exact W.iret (v := σ.2.1 1) hx hb hr (fun t ht hW => ⟨_, rfl, (by rw [fX6_count, if_neg c_1_0, if_pos c_1_1]), ht⟩) (fun _ h => absurd h List.not_mem_nil) dX6_count_52
  by_cases c_1_2 : p1 = 2
  · refine xs_in (tgt := 53) hx hb 2 c_1_2 dX6_count_1 (by decide) (by decide) rfl (by decide) ?_
    refine lv_aload_n hx hb dX6_count_53 rfl (lv_at hl 0 rfl) ?_
    refine va_get (D := (dC, dI)) (ci := 6) (v := .ref (q 21)) (C := RX6) (T := TX6) (N := 6) hx hb hts inX6 hown hK hP 0 rfl rfl 3 (by decide) (hts _ fl_X6_35) (fun _ h9 => h9) rfl dX6_count_54 ?_
    refine xc_i (va_runV (As := []) (rest := []) ⟨hx, hb, hml, hown, hts⟩ (c_X1_size l dC dI cI cJ q σ ) (cwV 0 hts (gV ml_X6_155 im_X1_size se_X1_size in_X1 co_X1_size) rfl rfl rfl (by decide +kernel) ⟨Nat.le_of_ble_eq_true rfl, Nat.le_of_ble_eq_true rfl⟩) (preV hK hP (pos := 21) (ci := 1) rfl rfl) rfl rfl hl.1 rfl (lv_room (Nat.le_of_ble_eq_true rfl)) dX6_count_57 ⟨Nat.zero_le _, Nat.zero_le _⟩) ?_
    exact W.iret (v := σ.2.1 2) hx hb hr (fun t ht hW => ⟨_, rfl, (by rw [fX6_count, if_neg c_1_0, if_neg c_1_1, if_pos c_1_2]), ht⟩) (fun _ h => absurd h List.not_mem_nil) dX6_count_60
  by_cases c_1_3 : p1 = 3
  · refine xs_in (tgt := 61) hx hb 3 c_1_3 dX6_count_1 (by decide) (by decide) rfl (by decide) ?_
    refine lv_aload_n hx hb dX6_count_61 rfl (lv_at hl 0 rfl) ?_
    refine va_get (D := (dC, dI)) (ci := 6) (v := .ref (q 13)) (C := RX6) (T := TX6) (N := 6) hx hb hts inX6 hown hK hP 0 rfl rfl 2 (by decide) (hts _ fl_X6_28) (fun _ h9 => h9) rfl dX6_count_62 ?_
    refine xc_i (va_runV (As := []) (rest := []) ⟨hx, hb, hml, hown, hts⟩ (c_X4_size l dC dI cI cJ q σ ) (cwV 0 hts (gV ml_X6_187 im_X4_size se_X4_size in_X4 co_X4_size) rfl rfl rfl (by decide +kernel) ⟨Nat.le_of_ble_eq_true rfl, Nat.le_of_ble_eq_true rfl⟩) (preV hK hP (pos := 13) (ci := 4) rfl rfl) rfl rfl hl.1 rfl (lv_room (Nat.le_of_ble_eq_true rfl)) dX6_count_65 ⟨Nat.zero_le _, Nat.zero_le _⟩) ?_
    exact W.iret (v := σ.2.1 3) hx hb hr (fun t ht hW => ⟨_, rfl, (by rw [fX6_count, if_neg c_1_0, if_neg c_1_1, if_neg c_1_2, if_pos c_1_3]), ht⟩) (fun _ h => absurd h List.not_mem_nil) dX6_count_68
  by_cases c_1_4 : p1 = 4
  · refine xs_in (tgt := 69) hx hb 4 c_1_4 dX6_count_1 (by decide) (by decide) rfl (by decide) ?_
    refine lv_aload_n hx hb dX6_count_69 rfl (lv_at hl 0 rfl) ?_
    refine va_get (D := (dC, dI)) (ci := 6) (v := .ref (q 1)) (C := RX6) (T := TX6) (N := 6) hx hb hts inX6 hown hK hP 0 rfl rfl 0 (by decide) (hts _ fl_X6_12) (fun _ h9 => h9) rfl dX6_count_70 ?_
    refine xc_i (va_runV (As := []) (rest := []) ⟨hx, hb, hml, hown, hts⟩ (c_X2_open l dC dI cI cJ q σ ) (cwV 0 hts (gV ml_X6_188 im_X2_open se_X2_open in_X2 co_X2_open) rfl rfl rfl (by decide +kernel) ⟨Nat.le_of_ble_eq_true rfl, Nat.le_of_ble_eq_true rfl⟩) (preV hK hP (pos := 1) (ci := 2) rfl rfl) rfl rfl hl.1 rfl (lv_room (Nat.le_of_ble_eq_true rfl)) dX6_count_73 ⟨Nat.zero_le _, Nat.zero_le _⟩) ?_
    exact W.iret (v := (σ.2.1 4) - 1) hx hb hr (fun t ht hW => ⟨_, rfl, (by rw [fX6_count, if_neg c_1_0, if_neg c_1_1, if_neg c_1_2, if_neg c_1_3, if_pos c_1_4]), ht⟩) (fun _ h => absurd h List.not_mem_nil) dX6_count_76
  by_cases c_1_5 : p1 = 5
  · refine xs_in (tgt := 77) hx hb 5 c_1_5 dX6_count_1 (by decide) (by decide) rfl (by decide) ?_
    refine lv_aload_n hx hb dX6_count_77 rfl (lv_at hl 0 rfl) ?_
    refine va_get (D := (dC, dI)) (ci := 6) (v := .ref (q 1)) (C := RX6) (T := TX6) (N := 6) hx hb hts inX6 hown hK hP 0 rfl rfl 0 (by decide) (hts _ fl_X6_12) (fun _ h9 => h9) rfl dX6_count_78 ?_
    refine xc_i (va_runV (As := []) (rest := []) ⟨hx, hb, hml, hown, hts⟩ (c_X2_undoneCount l dC dI cI cJ q σ ) (cwV 0 hts (gV ml_X6_191 im_X2_undoneCount se_X2_undoneCount in_X2 co_X2_undoneCount) rfl rfl rfl (by decide +kernel) ⟨Nat.le_of_ble_eq_true rfl, Nat.le_of_ble_eq_true rfl⟩) (preV hK hP (pos := 1) (ci := 2) rfl rfl) rfl rfl hl.1 rfl (lv_room (Nat.le_of_ble_eq_true rfl)) dX6_count_81 ⟨Nat.zero_le _, Nat.zero_le _⟩) ?_
    exact W.iret (v := σ.2.1 5) hx hb hr (fun t ht hW => ⟨_, rfl, (by rw [fX6_count, if_neg c_1_0, if_neg c_1_1, if_neg c_1_2, if_neg c_1_3, if_neg c_1_4, if_pos c_1_5]), ht⟩) (fun _ h => absurd h List.not_mem_nil) dX6_count_84
  refine lv_tableOut (tgt := 85) hx hb dX6_count_1 (xs_out (n := 6) (by decide) (fun k hk => by
      match k, hk with
      | 0, _ => exact c_1_0
      | 1, _ => exact c_1_1
      | 2, _ => exact c_1_2
      | 3, _ => exact c_1_3
      | 4, _ => exact c_1_4
      | 5, _ => exact c_1_5
      | k + 6, h => exact absurd h (by omega))) (by decide) ?_
  refine lv_iconst (v := (-1)) hx hb dX6_count_85 (by decide) ?_
  exact W.iret (v := (-1)) hx hb hr (fun t ht hW => ⟨_, rfl, (by rw [fX6_count, if_neg c_1_0, if_neg c_1_1, if_neg c_1_2, if_neg c_1_3, if_neg c_1_4, if_neg c_1_5]), ht⟩) (fun _ h => absurd h List.not_mem_nil) dX6_count_86
