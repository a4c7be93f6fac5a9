theorem sz_succ {z : Int32} {N : Nat} (h : vp_in z N) (hN : N < 2 ^ 31) : szI (z + 1) N := by
  obtain ⟨j, hj, rfl⟩ := vp_in_of h hN
  refine ⟨?_, ?_⟩
  · rw [nI_1, nI_clamp (by omega)]
  · rw [nI_1, nI_clamp (by omega)]
    omega
theorem add_IB {σ : St} {a b t : Int32} (h : IB σ) : IB (fX5_add σ a b t).2 := by
  unfold fX5_add
  split
  · rename_i c
    exact ⟨sz_succ (room_in h.1 c) (by decide), h.2.1, h.2.2.1, h.2.2.2.1, h.2.2.2.2.1, h.2.2.2.2.2⟩
  · exact h
theorem cbu_in {σ : St} {x : Int32} (h : IB σ) (c : ¬ fX2_canBeUndone σ x = 0) : vp_in x 40 := by
  unfold fX2_canBeUndone at c
  split at c
  · exact absurd rfl c
  · split at c
    · exact absurd rfl c
    · exact can_in h.2.2.2.1 (by assumption) (by assumption)
theorem su_IB {σ : St} {a b : Int32} (h : IB σ) : IB (fX2_setUndone σ a b) := h
theorem start_keep (σ : St) (d k : Int32) : ∀ (n i : Nat) (σ1 : St), (flX0_start_17 σ d k n i σ1).1 = σ1.1 ∧ (flX0_start_17 σ d k n i σ1).2.1 = σ1.2.1 := by
  intro n
  induction n with
  | zero => intro i σ1; exact ⟨rfl, rfl⟩
  | succ n ih => intro i σ1; rw [flX0_start_17]; exact ih _ _
theorem start_IB {σ : St} {d k : Int32} (h : IB σ) : IB (fX0_start σ d k) := by
  unfold fX0_start
  exact IB_congr (start_keep _ _ _ _ _ _).1 (start_keep _ _ _ _ _ _).2 h
theorem cadd_A {σ : St} {a b : Int32} : (fX0_add σ a b).1 = σ.1 := (carry_keep _ _ _ _ _).1
theorem cadd_V {σ : St} {a b : Int32} : (fX0_add σ a b).2.1 = σ.2.1 := (carry_keep _ _ _ _ _).2
theorem cadd_IB {σ : St} {a b : Int32} (h : IB σ) : IB (fX0_add σ a b) := IB_congr cadd_A cadd_V h

def fX6_split (σ : St) (p1 : Int32) (p2 : Int32) (p3 : Int32) (p4 : Int32) (p5 : Int32) (p6 : Int32) : Int32 × St :=
  (if (fX6_canEnd σ p1 p2) = 0 then ((-2), σ) else (if (fX6_isCode σ p3) = 0 then ((-2), σ) else (if (fX6_isCode σ p4) = 0 then ((-2), σ) else (if p3 = p4 then ((-2), σ) else (if (fX6_isShare σ p5 p6) = 0 then ((-2), σ) else (if (fX5_isTaken σ p3 p2 p1 (-1)) = 0 then (if (fX5_isTaken σ p4 p2 p1 (-1)) = 0 then (if 2 ≤ (40 - (σ.2.1 1)) then ((fX5_add σ p3 p2 (σ.2.1 0)).1, (fX5_setShare (fX5_finish (fX5_add (fX5_add σ p3 p2 (σ.2.1 0)).2 p4 p2 (((fX5_add σ p3 p2 (σ.2.1 0)).2).2.1 0)).2 p1 p2 (((fX5_add (fX5_add σ p3 p2 (σ.2.1 0)).2 p4 p2 (((fX5_add σ p3 p2 (σ.2.1 0)).2).2.1 0)).2).2.1 0) 2 ((fX5_add σ p3 p2 (σ.2.1 0)).1)) p1 p5 p6)) else ((-4), σ)) else ((-3), σ)) else ((-3), σ)))))))
set_option maxHeartbeats 4000000 in
set_option maxRecDepth 100000 in
theorem c_X6_split (l : Launch) (dC : Nat → ClassId) (dI : Nat → Nat → Nat) (cI cJ : ClassId) (q : Nat → Nat) (σ : St) (p1 : Int32) (p2 : Int32) (p3 : Int32) (p4 : Int32) (p5 : Int32) (p6 : Int32) (hd : dT 30 q) (hI : IB σ) : Met l yX6_split (.code yX6_split cX6_split 8 (some .int) :: tb) { frames := 2, cells := 0, slots := 0, locals := 43 } (Pu (dC, dI) (tyC cI cJ) (wT cI cJ q σ) [.ref (q 0), .int p1, .int p2, .int p3, .int p4, .int p5, .int p6]) (xw_Q (some (.int (fX6_split σ p1 p2 p3 p4 p5 p6).1)) (dC, dI) (wT cI cJ q (fX6_split σ p1 p2 p3 p4 p5 p6).2) (aT 30 q)) 0 0 (aT 30 q) := by
  refine Met.ofW (cc := cX6_split) (maxL := 8) (ret := (some .int)) (by decide) rfl ?_
  intro p e s m args below meth c s₁ B hml hv
  obtain ⟨rfl, hP, hK⟩ := hv
  have hx := B.exec
  have hb := B.bytes
  have hr := B.returns
  have hts0 := atoms_spec (ws := .code yX6_split cX6_split 8 (some .int) :: tb) B.pre
  have hts : ∀ w ∈ tb, w.before _ s = true := fun w hw => hts0 w (List.mem_cons_of_mem _ hw)
  have hown : s.vm.findClass RX6 = some m.cls := findClass_of_methodNamed B.named
  have hlocks := B.notSynchronized
  have hl := lv_entry ([.ref (q 0), .int p1, .int p2, .int p3, .int p4, .int p5, .int p6]) (n := 8) (Nat.le_of_ble_eq_true rfl)
  rw [lg_entry_eq]
  generalize (lg_sl ([.ref (q 0), .int p1, .int p2, .int p3, .int p4, .int p5, .int p6]) ++ List.replicate (8 - (lg_sl ([.ref (q 0), .int p1, .int p2, .int p3, .int p4, .int p5, .int p6])).length) Slot.unset).toArray = ls at hl ⊢
  have hl : lv_has ls 8 [(0, .ref (q 0)), (1, .int p1), (2, .int p2), (3, .int p3), (4, .int p4), (5, .int p5), (6, .int p6)] := hl
  obtain ⟨H, hHe⟩ : ∃ H, s.heap = H := ⟨_, rfl⟩
  rw [hHe] at hP ⊢
  obtain ⟨locs, hLe⟩ : ∃ x : List Loc, ([] : List Loc) = x := ⟨_, rfl⟩
  rw [hLe]
  have hS : va_S (aT 30 q) s.heap H locs := by rw [← hHe, ← hLe]; exact va_S.rf
  refine lv_aload_n hx hb dX6_split_0 rfl (lv_at hl 0 rfl) ?_
  refine lv_iload_n hx hb dX6_split_1 rfl (lv_at hl 1 rfl) ?_
  refine lv_iload_n hx hb dX6_split_2 rfl (lv_at hl 2 rfl) ?_
  refine xc_i (va_runV (As := [.int p1, .int p2]) (rest := []) ⟨hx, hb, hml, hown, hts⟩ (c_X6_canEnd l dC dI cI cJ q σ p1 p2 (by assumption)) (cwV 2 hts (gV ml_X6_71 im_X6_canEnd se_X6_canEnd in_X6 co_X6_canEnd) rfl rfl rfl (by decide +kernel) ⟨Nat.le_of_ble_eq_true rfl, Nat.le_of_ble_eq_true rfl⟩) (preV hK hP (pos := 0) (ci := 6) rfl rfl) rfl rfl hl.1 rfl (lv_room (Nat.le_of_ble_eq_true rfl)) dX6_split_3 ⟨Nat.zero_le _, Nat.zero_le _⟩) ?_
  refine lv_if_eq (tgt := 40) hx hb dX6_split_6 (by decide) (fun c_6 => ?_) (fun c_6 => ?_)
  · refine lv_bipush (v := (-2)) hx hb dX6_split_40 (by decide) ?_
    have hF : fX6_split σ p1 p2 p3 p4 p5 p6 = ((-2), σ) := by rw [fX6_split, if_pos c_6]
    have hP9 : va_P (dC, dI) vwCl (wT cI cJ q (fX6_split σ p1 p2 p3 p4 p5 p6).2) H := by rw [hF]; exact hP
    exact W.iret (v := (-2)) hx hb hr (fun t ht hW => ⟨(by rw [hF]), by rw [ht]; exact hP9, hS.F ht⟩) hS.2.2 dX6_split_42
  · refine lv_iload_n hx hb dX6_split_9 rfl (lv_at hl 3 rfl) ?_
    refine xc_i (va_runS (As := [.int p3]) (rest := []) ⟨hx, hb, hml, hown, hts⟩ (c_X6_isCode l dC dI cI cJ q σ p3) (va_cwS 1 hts (gS ml_X6_52 st_X6_isCode in_X6 co_X6_isCode) rfl rfl rfl (by decide +kernel) ⟨Nat.le_of_ble_eq_true rfl, Nat.le_of_ble_eq_true rfl⟩) (preS hK hP) rfl rfl hl.1 rfl (lv_room (Nat.le_of_ble_eq_true rfl)) dX6_split_10 ⟨Nat.zero_le _, Nat.zero_le _⟩) ?_
    refine lv_if_eq (tgt := 40) hx hb dX6_split_13 (by decide) (fun c_13 => ?_) (fun c_13 => ?_)
    · refine lv_bipush (v := (-2)) hx hb dX6_split_40 (by decide) ?_
      have hF : fX6_split σ p1 p2 p3 p4 p5 p6 = ((-2), σ) := by rw [fX6_split, if_neg c_6, if_pos c_13]
      have hP9 : va_P (dC, dI) vwCl (wT cI cJ q (fX6_split σ p1 p2 p3 p4 p5 p6).2) H := by rw [hF]; exact hP
      exact W.iret (v := (-2)) hx hb hr (fun t ht hW => ⟨(by rw [hF]), by rw [ht]; exact hP9, hS.F ht⟩) hS.2.2 dX6_split_42
    · refine lv_iload hx hb dX6_split_16 (lv_at hl 4 rfl) ?_
      refine xc_i (va_runS (As := [.int p4]) (rest := []) ⟨hx, hb, hml, hown, hts⟩ (c_X6_isCode l dC dI cI cJ q σ p4) (va_cwS 1 hts (gS ml_X6_52 st_X6_isCode in_X6 co_X6_isCode) rfl rfl rfl (by decide +kernel) ⟨Nat.le_of_ble_eq_true rfl, Nat.le_of_ble_eq_true rfl⟩) (preS hK hP) rfl rfl hl.1 rfl (lv_room (Nat.le_of_ble_eq_true rfl)) dX6_split_18 ⟨Nat.zero_le _, Nat.zero_le _⟩) ?_
      refine lv_if_eq (tgt := 40) hx hb dX6_split_21 (by decide) (fun c_21 => ?_) (fun c_21 => ?_)
      · refine lv_bipush (v := (-2)) hx hb dX6_split_40 (by decide) ?_
        have hF : fX6_split σ p1 p2 p3 p4 p5 p6 = ((-2), σ) := by rw [fX6_split, if_neg c_6, if_neg c_13, if_pos c_21]
        have hP9 : va_P (dC, dI) vwCl (wT cI cJ q (fX6_split σ p1 p2 p3 p4 p5 p6).2) H := by rw [hF]; exact hP
        exact W.iret (v := (-2)) hx hb hr (fun t ht hW => ⟨(by rw [hF]), by rw [ht]; exact hP9, hS.F ht⟩) hS.2.2 dX6_split_42
      · refine lv_iload_n hx hb dX6_split_24 rfl (lv_at hl 3 rfl) ?_
        refine lv_iload hx hb dX6_split_25 (lv_at hl 4 rfl) ?_
        refine lv_icmp_eq (tgt := 40) hx hb dX6_split_27 (by decide) (fun c_27 => ?_) (fun c_27 => ?_)
        · refine lv_bipush (v := (-2)) hx hb dX6_split_40 (by decide) ?_
          have hF : fX6_split σ p1 p2 p3 p4 p5 p6 = ((-2), σ) := by rw [fX6_split, if_neg c_6, if_neg c_13, if_neg c_21, if_pos c_27]
          have hP9 : va_P (dC, dI) vwCl (wT cI cJ q (fX6_split σ p1 p2 p3 p4 p5 p6).2) H := by rw [hF]; exact hP
          exact W.iret (v := (-2)) hx hb hr (fun t ht hW => ⟨(by rw [hF]), by rw [ht]; exact hP9, hS.F ht⟩) hS.2.2 dX6_split_42
        · refine lv_iload hx hb dX6_split_30 (lv_at hl 5 rfl) ?_
          refine lv_iload hx hb dX6_split_32 (lv_at hl 6 rfl) ?_
          refine xc_i (va_runS (As := [.int p5, .int p6]) (rest := []) ⟨hx, hb, hml, hown, hts⟩ (c_X6_isShare l dC dI cI cJ q σ p5 p6) (va_cwS 2 hts (gS ml_X6_79 st_X6_isShare in_X6 co_X6_isShare) rfl rfl rfl (by decide +kernel) ⟨Nat.le_of_ble_eq_true rfl, Nat.le_of_ble_eq_true rfl⟩) (preS hK hP) rfl rfl hl.1 rfl (lv_room (Nat.le_of_ble_eq_true rfl)) dX6_split_34 ⟨Nat.zero_le _, Nat.zero_le _⟩) ?_
          refine lv_if_ne (tgt := 43) hx hb dX6_split_37 (by decide) (fun c_37 => ?_) (fun c_37 => ?_)
          · refine lv_aload_n hx hb dX6_split_43 rfl (lv_at hl 0 rfl) ?_
            refine va_get (D := (dC, dI)) (ci := 6) (v := .ref (q 3)) (C := RX6) (T := TX6) (N := 6) hx hb hts inX6 hown hK hP 0 rfl rfl 1 (by decide) (hts _ fl_X6_19) (fun _ h9 => h9) rfl dX6_split_44 ?_
            refine lv_iload_n hx hb dX6_split_47 rfl (lv_at hl 3 rfl) ?_
            refine lv_iload_n hx hb dX6_split_48 rfl (lv_at hl 2 rfl) ?_
            refine lv_iload_n hx hb dX6_split_49 rfl (lv_at hl 1 rfl) ?_
            refine lv_iconst (v := (-1)) hx hb dX6_split_50 (by decide) ?_
            refine xc_i (va_runV (As := [.int p3, .int p2, .int p1, .int (-1)]) (rest := []) ⟨hx, hb, hml, hown, hts⟩ (c_X5_isTaken l dC dI cI cJ q σ p3 p2 p1 (-1) (by assumption)) (cwV 4 hts (gV ml_X6_59 im_X5_isTaken se_X5_isTaken in_X5 co_X5_isTaken) rfl rfl rfl (by decide +kernel) ⟨Nat.le_of_ble_eq_true rfl, Nat.le_of_ble_eq_true rfl⟩) (preV hK hP (pos := 3) (ci := 5) rfl rfl) rfl rfl hl.1 rfl (lv_room (Nat.le_of_ble_eq_true rfl)) dX6_split_51 ⟨Nat.zero_le _, Nat.zero_le _⟩) ?_
            refine lv_if_ne (tgt := 72) hx hb dX6_split_54 (by decide) (fun c_54 => ?_) (fun c_54 => ?_)
            · refine lv_bipush (v := (-3)) hx hb dX6_split_72 (by decide) ?_
              have hF : fX6_split σ p1 p2 p3 p4 p5 p6 = ((-3), σ) := by rw [fX6_split, if_neg c_6, if_neg c_13, if_neg c_21, if_neg c_27, if_neg c_37, if_neg c_54]
              have hP9 : va_P (dC, dI) vwCl (wT cI cJ q (fX6_split σ p1 p2 p3 p4 p5 p6).2) H := by rw [hF]; exact hP
              exact W.iret (v := (-3)) hx hb hr (fun t ht hW => ⟨(by rw [hF]), by rw [ht]; exact hP9, hS.F ht⟩) hS.2.2 dX6_split_74
            · refine lv_aload_n hx hb dX6_split_57 rfl (lv_at hl 0 rfl) ?_
              refine va_get (D := (dC, dI)) (ci := 6) (v := .ref (q 3)) (C := RX6) (T := TX6) (N := 6) hx hb hts inX6 hown hK hP 0 rfl rfl 1 (by decide) (hts _ fl_X6_19) (fun _ h9 => h9) rfl dX6_split_58 ?_
              refine lv_iload hx hb dX6_split_61 (lv_at hl 4 rfl) ?_
              refine lv_iload_n hx hb dX6_split_63 rfl (lv_at hl 2 rfl) ?_
              refine lv_iload_n hx hb dX6_split_64 rfl (lv_at hl 1 rfl) ?_
              refine lv_iconst (v := (-1)) hx hb dX6_split_65 (by decide) ?_
              refine xc_i (va_runV (As := [.int p4, .int p2, .int p1, .int (-1)]) (rest := []) ⟨hx, hb, hml, hown, hts⟩ (c_X5_isTaken l dC dI cI cJ q σ p4 p2 p1 (-1) (by assumption)) (cwV 4 hts (gV ml_X6_59 im_X5_isTaken se_X5_isTaken in_X5 co_X5_isTaken) rfl rfl rfl (by decide +kernel) ⟨Nat.le_of_ble_eq_true rfl, Nat.le_of_ble_eq_true rfl⟩) (preV hK hP (pos := 3) (ci := 5) rfl rfl) rfl rfl hl.1 rfl (lv_room (Nat.le_of_ble_eq_true rfl)) dX6_split_66 ⟨Nat.zero_le _, Nat.zero_le _⟩) ?_
              refine lv_if_eq (tgt := 75) hx hb dX6_split_69 (by decide) (fun c_69 => ?_) (fun c_69 => ?_)
              · refine lv_aload_n hx hb dX6_split_75 rfl (lv_at hl 0 rfl) ?_
                refine va_get (D := (dC, dI)) (ci := 6) (v := .ref (q 3)) (C := RX6) (T := TX6) (N := 6) hx hb hts inX6 hown hK hP 0 rfl rfl 1 (by decide) (hts _ fl_X6_19) (fun _ h9 => h9) rfl dX6_split_76 ?_
                refine xc_i (va_runV (As := []) (rest := []) ⟨hx, hb, hml, hown, hts⟩ (c_X5_room l dC dI cI cJ q σ ) (cwV 0 hts (gV ml_X6_63 im_X5_room se_X5_room in_X5 co_X5_room) rfl rfl rfl (by decide +kernel) ⟨Nat.le_of_ble_eq_true rfl, Nat.le_of_ble_eq_true rfl⟩) (preV hK hP (pos := 3) (ci := 5) rfl rfl) rfl rfl hl.1 rfl (lv_room (Nat.le_of_ble_eq_true rfl)) dX6_split_79 ⟨Nat.zero_le _, Nat.zero_le _⟩) ?_
                refine lv_iconst (v := 2) hx hb dX6_split_82 (by decide) ?_
                refine lv_icmp_ge (tgt := 89) hx hb dX6_split_83 (by decide) (fun c_83 => ?_) (fun c_83 => ?_)
                · refine lv_aload_n hx hb dX6_split_89 rfl (lv_at hl 0 rfl) ?_
                  refine va_get (D := (dC, dI)) (ci := 6) (v := .ref (q 3)) (C := RX6) (T := TX6) (N := 6) hx hb hts inX6 hown hK hP 0 rfl rfl 1 (by decide) (hts _ fl_X6_19) (fun _ h9 => h9) rfl dX6_split_90 ?_
                  refine lv_iload_n hx hb dX6_split_93 rfl (lv_at hl 3 rfl) ?_
                  refine lv_iload_n hx hb dX6_split_94 rfl (lv_at hl 2 rfl) ?_
                  refine lv_aload_n hx hb dX6_split_95 rfl (lv_at hl 0 rfl) ?_
                  refine va_get (D := (dC, dI)) (ci := 6) (v := .int (σ.2.1 0)) (C := RX6) (T := TX6) (N := 6) hx hb hts inX6 hown hK hP 0 rfl rfl 5 (by decide) (hts _ fl_X6_48) (fun _ h9 => h9) rfl dX6_split_96 ?_
                  refine xw_c (va_runV (As := [.int p3, .int p2, .int (σ.2.1 0)]) (rest := []) ⟨hx, hb, hml, hown, hts⟩ (c_X5_add l dC dI cI cJ q σ p3 p2 (σ.2.1 0) (by assumption) (by assumption)) (cwV 3 hts (gV ml_X6_67 im_X5_add se_X5_add in_X5 co_X5_add) rfl rfl rfl (by decide +kernel) ⟨Nat.le_of_ble_eq_true rfl, Nat.le_of_ble_eq_true rfl⟩) (preV hK hP (pos := 3) (ci := 5) rfl rfl) rfl rfl hl.1 rfl (lv_room (Nat.le_of_ble_eq_true rfl)) dX6_split_99 ⟨Nat.zero_le _, Nat.zero_le _⟩) hS (fun _ h => h) (fun H locs hP _ _ hS => ?_)
                  have hP : va_P (dC, dI) vwCl (wT cI cJ q (fX5_add σ p3 p2 (σ.2.1 0)).2) H := hP
                  refine W.eq (g2 := F0 m 102 ls [.int ((fX5_add σ p3 p2 (σ.2.1 0)).1)]) rfl ?_
                  refine lv_istore (lv' := [(7, .int ((fX5_add σ p3 p2 (σ.2.1 0)).1)), (0, .ref (q 0)), (1, .int p1), (2, .int p2), (3, .int p3), (4, .int p4), (5, .int p5), (6, .int p6)]) hx hb dX6_split_102 hl (by decide) rfl (fun ls hl => ?_)
                  refine lv_aload_n hx hb dX6_split_104 rfl (lv_at hl 1 rfl) ?_
                  refine va_get (D := (dC, dI)) (ci := 6) (v := .ref (q 3)) (C := RX6) (T := TX6) (N := 6) hx hb hts inX6 hown hK hP 0 rfl rfl 1 (by decide) (hts _ fl_X6_19) (fun _ h9 => h9) rfl dX6_split_105 ?_
                  refine lv_iload hx hb dX6_split_108 (lv_at hl 5 rfl) ?_
                  refine lv_iload_n hx hb dX6_split_110 rfl (lv_at hl 3 rfl) ?_
                  refine lv_aload_n hx hb dX6_split_111 rfl (lv_at hl 1 rfl) ?_
                  refine va_get (D := (dC, dI)) (ci := 6) (v := .int (((fX5_add σ p3 p2 (σ.2.1 0)).2).2.1 0)) (C := RX6) (T := TX6) (N := 6) hx hb hts inX6 hown hK hP 0 rfl rfl 5 (by decide) (hts _ fl_X6_48) (fun _ h9 => h9) rfl dX6_split_112 ?_
                  refine xw_c (va_runV (As := [.int p4, .int p2, .int (((fX5_add σ p3 p2 (σ.2.1 0)).2).2.1 0)]) (rest := []) ⟨hx, hb, hml, hown, hts⟩ (c_X5_add l dC dI cI cJ q (fX5_add σ p3 p2 (σ.2.1 0)).2 p4 p2 (((fX5_add σ p3 p2 (σ.2.1 0)).2).2.1 0) (by assumption) (add_IB hI)) (cwV 3 hts (gV ml_X6_67 im_X5_add se_X5_add in_X5 co_X5_add) rfl rfl rfl (by decide +kernel) ⟨Nat.le_of_ble_eq_true rfl, Nat.le_of_ble_eq_true rfl⟩) (preV hK hP (pos := 3) (ci := 5) rfl rfl) rfl rfl hl.1 rfl (lv_room (Nat.le_of_ble_eq_true rfl)) dX6_split_115 ⟨Nat.zero_le _, Nat.zero_le _⟩) hS (fun _ h => h) (fun H locs hP _ _ hS => ?_)
                  have hP : va_P (dC, dI) vwCl (wT cI cJ q (fX5_add (fX5_add σ p3 p2 (σ.2.1 0)).2 p4 p2 (((fX5_add σ p3 p2 (σ.2.1 0)).2).2.1 0)).2) H := hP
                  refine W.eq (g2 := F0 m 118 ls [.int ((fX5_add (fX5_add σ p3 p2 (σ.2.1 0)).2 p4 p2 (((fX5_add σ p3 p2 (σ.2.1 0)).2).2.1 0)).1)]) rfl ?_
                  refine lv_pop hx hb dX6_split_118 rfl ?_
                  refine lv_aload_n hx hb dX6_split_119 rfl (lv_at hl 1 rfl) ?_
                  refine va_get (D := (dC, dI)) (ci := 6) (v := .ref (q 3)) (C := RX6) (T := TX6) (N := 6) hx hb hts inX6 hown hK hP 0 rfl rfl 1 (by decide) (hts _ fl_X6_19) (fun _ h9 => h9) rfl dX6_split_120 ?_
                  refine lv_iload_n hx hb dX6_split_123 rfl (lv_at hl 2 rfl) ?_
                  refine lv_iload_n hx hb dX6_split_124 rfl (lv_at hl 3 rfl) ?_
                  refine lv_aload_n hx hb dX6_split_125 rfl (lv_at hl 1 rfl) ?_
                  refine va_get (D := (dC, dI)) (ci := 6) (v := .int (((fX5_add (fX5_add σ p3 p2 (σ.2.1 0)).2 p4 p2 (((fX5_add σ p3 p2 (σ.2.1 0)).2).2.1 0)).2).2.1 0)) (C := RX6) (T := TX6) (N := 6) hx hb hts inX6 hown hK hP 0 rfl rfl 5 (by decide) (hts _ fl_X6_48) (fun _ h9 => h9) rfl dX6_split_126 ?_
                  refine lv_iconst (v := 2) hx hb dX6_split_129 (by decide) ?_
                  refine lv_iload hx hb dX6_split_130 (lv_at hl 0 rfl) ?_
                  refine xw_c (va_runV (As := [.int p1, .int p2, .int (((fX5_add (fX5_add σ p3 p2 (σ.2.1 0)).2 p4 p2 (((fX5_add σ p3 p2 (σ.2.1 0)).2).2.1 0)).2).2.1 0), .int 2, .int ((fX5_add σ p3 p2 (σ.2.1 0)).1)]) (rest := []) ⟨hx, hb, hml, hown, hts⟩ (c_X5_finish l dC dI cI cJ q (fX5_add (fX5_add σ p3 p2 (σ.2.1 0)).2 p4 p2 (((fX5_add σ p3 p2 (σ.2.1 0)).2).2.1 0)).2 p1 p2 (((fX5_add (fX5_add σ p3 p2 (σ.2.1 0)).2 p4 p2 (((fX5_add σ p3 p2 (σ.2.1 0)).2).2.1 0)).2).2.1 0) 2 ((fX5_add σ p3 p2 (σ.2.1 0)).1) (by assumption) (canEnd_in hI c_6)) (cwV 5 hts (gV ml_X6_75 im_X5_finish se_X5_finish in_X5 co_X5_finish) rfl rfl rfl (by decide +kernel) ⟨Nat.le_of_ble_eq_true rfl, Nat.le_of_ble_eq_true rfl⟩) (preV hK hP (pos := 3) (ci := 5) rfl rfl) rfl rfl hl.1 rfl (lv_room (Nat.le_of_ble_eq_true rfl)) dX6_split_132 ⟨Nat.zero_le _, Nat.zero_le _⟩) hS (fun _ h => h) (fun H locs hP _ _ hS => ?_)
                  have hP : va_P (dC, dI) vwCl (wT cI cJ q (fX5_finish (fX5_add (fX5_add σ p3 p2 (σ.2.1 0)).2 p4 p2 (((fX5_add σ p3 p2 (σ.2.1 0)).2).2.1 0)).2 p1 p2 (((fX5_add (fX5_add σ p3 p2 (σ.2.1 0)).2 p4 p2 (((fX5_add σ p3 p2 (σ.2.1 0)).2).2.1 0)).2).2.1 0) 2 ((fX5_add σ p3 p2 (σ.2.1 0)).1))) H := hP
                  refine W.eq (g2 := F0 m 135 ls []) rfl ?_
                  refine lv_aload_n hx hb dX6_split_135 rfl (lv_at hl 1 rfl) ?_
                  refine va_get (D := (dC, dI)) (ci := 6) (v := .ref (q 3)) (C := RX6) (T := TX6) (N := 6) hx hb hts inX6 hown hK hP 0 rfl rfl 1 (by decide) (hts _ fl_X6_19) (fun _ h9 => h9) rfl dX6_split_136 ?_
                  refine lv_iload_n hx hb dX6_split_139 rfl (lv_at hl 2 rfl) ?_
                  refine lv_iload hx hb dX6_split_140 (lv_at hl 6 rfl) ?_
                  refine lv_iload hx hb dX6_split_142 (lv_at hl 7 rfl) ?_
                  refine xw_c (va_runV (As := [.int p1, .int p5, .int p6]) (rest := []) ⟨hx, hb, hml, hown, hts⟩ (c_X5_setShare l dC dI cI cJ q (fX5_finish (fX5_add (fX5_add σ p3 p2 (σ.2.1 0)).2 p4 p2 (((fX5_add σ p3 p2 (σ.2.1 0)).2).2.1 0)).2 p1 p2 (((fX5_add (fX5_add σ p3 p2 (σ.2.1 0)).2 p4 p2 (((fX5_add σ p3 p2 (σ.2.1 0)).2).2.1 0)).2).2.1 0) 2 ((fX5_add σ p3 p2 (σ.2.1 0)).1)) p1 p5 p6 (by assumption) (canEnd_in hI c_6)) (cwV 3 hts (gV ml_X6_82 im_X5_setShare se_X5_setShare in_X5 co_X5_setShare) rfl rfl rfl (by decide +kernel) ⟨Nat.le_of_ble_eq_true rfl, Nat.le_of_ble_eq_true rfl⟩) (preV hK hP (pos := 3) (ci := 5) rfl rfl) rfl rfl hl.1 rfl (lv_room (Nat.le_of_ble_eq_true rfl)) dX6_split_144 ⟨Nat.zero_le _, Nat.zero_le _⟩) hS (fun _ h => h) (fun H locs hP _ _ hS => ?_)
                  have hP : va_P (dC, dI) vwCl (wT cI cJ q (fX5_setShare (fX5_finish (fX5_add (fX5_add σ p3 p2 (σ.2.1 0)).2 p4 p2 (((fX5_add σ p3 p2 (σ.2.1 0)).2).2.1 0)).2 p1 p2 (((fX5_add (fX5_add σ p3 p2 (σ.2.1 0)).2 p4 p2 (((fX5_add σ p3 p2 (σ.2.1 0)).2).2.1 0)).2).2.1 0) 2 ((fX5_add σ p3 p2 (σ.2.1 0)).1)) p1 p5 p6)) H := hP
                  refine W.eq (g2 := F0 m 147 ls []) rfl ?_
                  refine lv_iload hx hb dX6_split_147 (lv_at hl 0 rfl) ?_
                  have hF : fX6_split σ p1 p2 p3 p4 p5 p6 = ((fX5_add σ p3 p2 (σ.2.1 0)).1, (fX5_setShare (fX5_finish (fX5_add (fX5_add σ p3 p2 (σ.2.1 0)).2 p4 p2 (((fX5_add σ p3 p2 (σ.2.1 0)).2).2.1 0)).2 p1 p2 (((fX5_add (fX5_add σ p3 p2 (σ.2.1 0)).2 p4 p2 (((fX5_add σ p3 p2 (σ.2.1 0)).2).2.1 0)).2).2.1 0) 2 ((fX5_add σ p3 p2 (σ.2.1 0)).1)) p1 p5 p6)) := by rw [fX6_split, if_neg c_6, if_neg c_13, if_neg c_21, if_neg c_27, if_neg c_37, if_pos c_54, if_pos c_69, if_pos c_83]
                  have hP9 : va_P (dC, dI) vwCl (wT cI cJ q (fX6_split σ p1 p2 p3 p4 p5 p6).2) H := by rw [hF]; exact hP
                  exact W.iret (v := (fX5_add σ p3 p2 (σ.2.1 0)).1) hx hb hr (fun t ht hW => ⟨(by rw [hF]), by rw [ht]; exact hP9, hS.F ht⟩) hS.2.2 dX6_split_149
                · refine lv_bipush (v := (-4)) hx hb dX6_split_86 (by decide) ?_
                  have hF : fX6_split σ p1 p2 p3 p4 p5 p6 = ((-4), σ) := by rw [fX6_split, if_neg c_6, if_neg c_13, if_neg c_21, if_neg c_27, if_neg c_37, if_pos c_54, if_pos c_69, if_neg c_83]
                  have hP9 : va_P (dC, dI) vwCl (wT cI cJ q (fX6_split σ p1 p2 p3 p4 p5 p6).2) H := by rw [hF]; exact hP
                  exact W.iret (v := (-4)) hx hb hr (fun t ht hW => ⟨(by rw [hF]), by rw [ht]; exact hP9, hS.F ht⟩) hS.2.2 dX6_split_88
              · refine lv_bipush (v := (-3)) hx hb dX6_split_72 (by decide) ?_
                have hF : fX6_split σ p1 p2 p3 p4 p5 p6 = ((-3), σ) := by rw [fX6_split, if_neg c_6, if_neg c_13, if_neg c_21, if_neg c_27, if_neg c_37, if_pos c_54, if_neg c_69]
                have hP9 : va_P (dC, dI) vwCl (wT cI cJ q (fX6_split σ p1 p2 p3 p4 p5 p6).2) H := by rw [hF]; exact hP
                exact W.iret (v := (-3)) hx hb hr (fun t ht hW => ⟨(by rw [hF]), by rw [ht]; exact hP9, hS.F ht⟩) hS.2.2 dX6_split_74
          · refine lv_bipush (v := (-2)) hx hb dX6_split_40 (by decide) ?_
            have hF : fX6_split σ p1 p2 p3 p4 p5 p6 = ((-2), σ) := by rw [fX6_split, if_neg c_6, if_neg c_13, if_neg c_21, if_neg c_27, if_pos c_37]
            have hP9 : va_P (dC, dI) vwCl (wT cI cJ q (fX6_split σ p1 p2 p3 p4 p5 p6).2) H := by rw [hF]; exact hP
            exact W.iret (v := (-2)) hx hb hr (fun t ht hW => ⟨(by rw [hF]), by rw [ht]; exact hP9, hS.F ht⟩) hS.2.2 dX6_split_42

def fX6_join (σ : St) (p1 : Int32) (p2 : Int32) (p3 : Int32) (p4 : Int32) : Int32 × St :=
  (if p1 = p2 then ((-2), σ) else (if (fX6_canEnd σ p1 p3) = 0 then ((-2), σ) else (if (fX6_canEnd σ p2 p3) = 0 then ((-2), σ) else (if (fX6_isCode σ p4) = 0 then ((-2), σ) else (if (fX5_isTaken σ p4 p3 p1 p2) = 0 then (if 1 ≤ (40 - (σ.2.1 1)) then ((fX5_add σ p4 p3 (σ.2.1 0)).1, (fX5_finish (fX5_finish (fX5_add σ p4 p3 (σ.2.1 0)).2 p1 p3 (((fX5_add σ p4 p3 (σ.2.1 0)).2).2.1 0) 3 ((fX5_add σ p4 p3 (σ.2.1 0)).1)) p2 p3 ((fX5_finish (fX5_add σ p4 p3 (σ.2.1 0)).2 p1 p3 (((fX5_add σ p4 p3 (σ.2.1 0)).2).2.1 0) 3 ((fX5_add σ p4 p3 (σ.2.1 0)).1)).2.1 0) 3 ((fX5_add σ p4 p3 (σ.2.1 0)).1))) else ((-4), σ)) else ((-3), σ))))))
set_option maxHeartbeats 4000000 in
set_option maxRecDepth 100000 in
theorem c_X6_join (l : Launch) (dC : Nat → ClassId) (dI : Nat → Nat → Nat) (cI cJ : ClassId) (q : Nat → Nat) (σ : St) (p1 : Int32) (p2 : Int32) (p3 : Int32) (p4 : Int32) (hd : dT 30 q) (hI : IB σ) : Met l yX6_join (.code yX6_join cX6_join 6 (some .int) :: tb) { frames := 2, cells := 0, slots := 0, locals := 43 } (Pu (dC, dI) (tyC cI cJ) (wT cI cJ q σ) [.ref (q 0), .int p1, .int p2, .int p3, .int p4]) (xw_Q (some (.int (fX6_join σ p1 p2 p3 p4).1)) (dC, dI) (wT cI cJ q (fX6_join σ p1 p2 p3 p4).2) (aT 30 q)) 0 0 (aT 30 q) := by
  refine Met.ofW (cc := cX6_join) (maxL := 6) (ret := (some .int)) (by decide) rfl ?_
  intro p e s m args below meth c s₁ B hml hv
  obtain ⟨rfl, hP, hK⟩ := hv
  have hx := B.exec
  have hb := B.bytes
  have hr := B.returns
  have hts0 := atoms_spec (ws := .code yX6_join cX6_join 6 (some .int) :: tb) B.pre
  have hts : ∀ w ∈ tb, w.before _ s = true := fun w hw => hts0 w (List.mem_cons_of_mem _ hw)
  have hown : s.vm.findClass RX6 = some m.cls := findClass_of_methodNamed B.named
  have hlocks := B.notSynchronized
  have hl := lv_entry ([.ref (q 0), .int p1, .int p2, .int p3, .int p4]) (n := 6) (Nat.le_of_ble_eq_true rfl)
  rw [lg_entry_eq]
  generalize (lg_sl ([.ref (q 0), .int p1, .int p2, .int p3, .int p4]) ++ List.replicate (6 - (lg_sl ([.ref (q 0), .int p1, .int p2, .int p3, .int p4])).length) Slot.unset).toArray = ls at hl ⊢
  have hl : lv_has ls 6 [(0, .ref (q 0)), (1, .int p1), (2, .int p2), (3, .int p3), (4, .int p4)] := hl
  obtain ⟨H, hHe⟩ : ∃ H, s.heap = H := ⟨_, rfl⟩
  rw [hHe] at hP ⊢
  obtain ⟨locs, hLe⟩ : ∃ x : List Loc, ([] : List Loc) = x := ⟨_, rfl⟩
  rw [hLe]
  have hS : va_S (aT 30 q) s.heap H locs := by rw [← hHe, ← hLe]; exact va_S.rf
  refine lv_iload_n hx hb dX6_join_0 rfl (lv_at hl 1 rfl) ?_
  refine lv_iload_n hx hb dX6_join_1 rfl (lv_at hl 2 rfl) ?_
  refine lv_icmp_eq (tgt := 31) hx hb dX6_join_2 (by decide) (fun c_2 => ?_) (fun c_2 => ?_)
  · refine lv_bipush (v := (-2)) hx hb dX6_join_31 (by decide) ?_
    have hF : fX6_join σ p1 p2 p3 p4 = ((-2), σ) := by rw [fX6_join, if_pos c_2]
    have hP9 : va_P (dC, dI) vwCl (wT cI cJ q (fX6_join σ p1 p2 p3 p4).2) H := by rw [hF]; exact hP
    exact W.iret (v := (-2)) hx hb hr (fun t ht hW => ⟨(by rw [hF]), by rw [ht]; exact hP9, hS.F ht⟩) hS.2.2 dX6_join_33
  · refine lv_aload_n hx hb dX6_join_5 rfl (lv_at hl 0 rfl) ?_
    refine lv_iload_n hx hb dX6_join_6 rfl (lv_at hl 1 rfl) ?_
    refine lv_iload_n hx hb dX6_join_7 rfl (lv_at hl 3 rfl) ?_
    refine xc_i (va_runV (As := [.int p1, .int p3]) (rest := []) ⟨hx, hb, hml, hown, hts⟩ (c_X6_canEnd l dC dI cI cJ q σ p1 p3 (by assumption)) (cwV 2 hts (gV ml_X6_71 im_X6_canEnd se_X6_canEnd in_X6 co_X6_canEnd) rfl rfl rfl (by decide +kernel) ⟨Nat.le_of_ble_eq_true rfl, Nat.le_of_ble_eq_true rfl⟩) (preV hK hP (pos := 0) (ci := 6) rfl rfl) rfl rfl hl.1 rfl (lv_room (Nat.le_of_ble_eq_true rfl)) dX6_join_8 ⟨Nat.zero_le _, Nat.zero_le _⟩) ?_
    refine lv_if_eq (tgt := 31) hx hb dX6_join_11 (by decide) (fun c_11 => ?_) (fun c_11 => ?_)
    · refine lv_bipush (v := (-2)) hx hb dX6_join_31 (by decide) ?_
      have hF : fX6_join σ p1 p2 p3 p4 = ((-2), σ) := by rw [fX6_join, if_neg c_2, if_pos c_11]
      have hP9 : va_P (dC, dI) vwCl (wT cI cJ q (fX6_join σ p1 p2 p3 p4).2) H := by rw [hF]; exact hP
      exact W.iret (v := (-2)) hx hb hr (fun t ht hW => ⟨(by rw [hF]), by rw [ht]; exact hP9, hS.F ht⟩) hS.2.2 dX6_join_33
    · refine lv_aload_n hx hb dX6_join_14 rfl (lv_at hl 0 rfl) ?_
      refine lv_iload_n hx hb dX6_join_15 rfl (lv_at hl 2 rfl) ?_
      refine lv_iload_n hx hb dX6_join_16 rfl (lv_at hl 3 rfl) ?_
      refine xc_i (va_runV (As := [.int p2, .int p3]) (rest := []) ⟨hx, hb, hml, hown, hts⟩ (c_X6_canEnd l dC dI cI cJ q σ p2 p3 (by assumption)) (cwV 2 hts (gV ml_X6_71 im_X6_canEnd se_X6_canEnd in_X6 co_X6_canEnd) rfl rfl rfl (by decide +kernel) ⟨Nat.le_of_ble_eq_true rfl, Nat.le_of_ble_eq_true rfl⟩) (preV hK hP (pos := 0) (ci := 6) rfl rfl) rfl rfl hl.1 rfl (lv_room (Nat.le_of_ble_eq_true rfl)) dX6_join_17 ⟨Nat.zero_le _, Nat.zero_le _⟩) ?_
      refine lv_if_eq (tgt := 31) hx hb dX6_join_20 (by decide) (fun c_20 => ?_) (fun c_20 => ?_)
      · refine lv_bipush (v := (-2)) hx hb dX6_join_31 (by decide) ?_
        have hF : fX6_join σ p1 p2 p3 p4 = ((-2), σ) := by rw [fX6_join, if_neg c_2, if_neg c_11, if_pos c_20]
        have hP9 : va_P (dC, dI) vwCl (wT cI cJ q (fX6_join σ p1 p2 p3 p4).2) H := by rw [hF]; exact hP
        exact W.iret (v := (-2)) hx hb hr (fun t ht hW => ⟨(by rw [hF]), by rw [ht]; exact hP9, hS.F ht⟩) hS.2.2 dX6_join_33
      · refine lv_iload hx hb dX6_join_23 (lv_at hl 4 rfl) ?_
        refine xc_i (va_runS (As := [.int p4]) (rest := []) ⟨hx, hb, hml, hown, hts⟩ (c_X6_isCode l dC dI cI cJ q σ p4) (va_cwS 1 hts (gS ml_X6_52 st_X6_isCode in_X6 co_X6_isCode) rfl rfl rfl (by decide +kernel) ⟨Nat.le_of_ble_eq_true rfl, Nat.le_of_ble_eq_true rfl⟩) (preS hK hP) rfl rfl hl.1 rfl (lv_room (Nat.le_of_ble_eq_true rfl)) dX6_join_25 ⟨Nat.zero_le _, Nat.zero_le _⟩) ?_
        refine lv_if_ne (tgt := 34) hx hb dX6_join_28 (by decide) (fun c_28 => ?_) (fun c_28 => ?_)
        · refine lv_aload_n hx hb dX6_join_34 rfl (lv_at hl 0 rfl) ?_
          refine va_get (D := (dC, dI)) (ci := 6) (v := .ref (q 3)) (C := RX6) (T := TX6) (N := 6) hx hb hts inX6 hown hK hP 0 rfl rfl 1 (by decide) (hts _ fl_X6_19) (fun _ h9 => h9) rfl dX6_join_35 ?_
          refine lv_iload hx hb dX6_join_38 (lv_at hl 4 rfl) ?_
          refine lv_iload_n hx hb dX6_join_40 rfl (lv_at hl 3 rfl) ?_
          refine lv_iload_n hx hb dX6_join_41 rfl (lv_at hl 1 rfl) ?_
          refine lv_iload_n hx hb dX6_join_42 rfl (lv_at hl 2 rfl) ?_
          refine xc_i (va_runV (As := [.int p4, .int p3, .int p1, .int p2]) (rest := []) ⟨hx, hb, hml, hown, hts⟩ (c_X5_isTaken l dC dI cI cJ q σ p4 p3 p1 p2 (by assumption)) (cwV 4 hts (gV ml_X6_59 im_X5_isTaken se_X5_isTaken in_X5 co_X5_isTaken) rfl rfl rfl (by decide +kernel) ⟨Nat.le_of_ble_eq_true rfl, Nat.le_of_ble_eq_true rfl⟩) (preV hK hP (pos := 3) (ci := 5) rfl rfl) rfl rfl hl.1 rfl (lv_room (Nat.le_of_ble_eq_true rfl)) dX6_join_43 ⟨Nat.zero_le _, Nat.zero_le _⟩) ?_
          refine lv_if_eq (tgt := 52) hx hb dX6_join_46 (by decide) (fun c_46 => ?_) (fun c_46 => ?_)
          · refine lv_aload_n hx hb dX6_join_52 rfl (lv_at hl 0 rfl) ?_
            refine va_get (D := (dC, dI)) (ci := 6) (v := .ref (q 3)) (C := RX6) (T := TX6) (N := 6) hx hb hts inX6 hown hK hP 0 rfl rfl 1 (by decide) (hts _ fl_X6_19) (fun _ h9 => h9) rfl dX6_join_53 ?_
            refine xc_i (va_runV (As := []) (rest := []) ⟨hx, hb, hml, hown, hts⟩ (c_X5_room l dC dI cI cJ q σ ) (cwV 0 hts (gV ml_X6_63 im_X5_room se_X5_room in_X5 co_X5_room) rfl rfl rfl (by decide +kernel) ⟨Nat.le_of_ble_eq_true rfl, Nat.le_of_ble_eq_true rfl⟩) (preV hK hP (pos := 3) (ci := 5) rfl rfl) rfl rfl hl.1 rfl (lv_room (Nat.le_of_ble_eq_true rfl)) dX6_join_56 ⟨Nat.zero_le _, Nat.zero_le _⟩) ?_
            refine lv_iconst (v := 1) hx hb dX6_join_59 (by decide) ?_
            refine lv_icmp_ge (tgt := 66) hx hb dX6_join_60 (by decide) (fun c_60 => ?_) (fun c_60 => ?_)
            · refine lv_aload_n hx hb dX6_join_66 rfl (lv_at hl 0 rfl) ?_
              refine va_get (D := (dC, dI)) (ci := 6) (v := .ref (q 3)) (C := RX6) (T := TX6) (N := 6) hx hb hts inX6 hown hK hP 0 rfl rfl 1 (by decide) (hts _ fl_X6_19) (fun _ h9 => h9) rfl dX6_join_67 ?_
              refine lv_iload hx hb dX6_join_70 (lv_at hl 4 rfl) ?_
              refine lv_iload_n hx hb dX6_join_72 rfl (lv_at hl 3 rfl) ?_
              refine lv_aload_n hx hb dX6_join_73 rfl (lv_at hl 0 rfl) ?_
              refine va_get (D := (dC, dI)) (ci := 6) (v := .int (σ.2.1 0)) (C := RX6) (T := TX6) (N := 6) hx hb hts inX6 hown hK hP 0 rfl rfl 5 (by decide) (hts _ fl_X6_48) (fun _ h9 => h9) rfl dX6_join_74 ?_
              refine xw_c (va_runV (As := [.int p4, .int p3, .int (σ.2.1 0)]) (rest := []) ⟨hx, hb, hml, hown, hts⟩ (c_X5_add l dC dI cI cJ q σ p4 p3 (σ.2.1 0) (by assumption) (by assumption)) (cwV 3 hts (gV ml_X6_67 im_X5_add se_X5_add in_X5 co_X5_add) rfl rfl rfl (by decide +kernel) ⟨Nat.le_of_ble_eq_true rfl, Nat.le_of_ble_eq_true rfl⟩) (preV hK hP (pos := 3) (ci := 5) rfl rfl) rfl rfl hl.1 rfl (lv_room (Nat.le_of_ble_eq_true rfl)) dX6_join_77 ⟨Nat.zero_le _, Nat.zero_le _⟩) hS (fun _ h => h) (fun H locs hP _ _ hS => ?_)
              have hP : va_P (dC, dI) vwCl (wT cI cJ q (fX5_add σ p4 p3 (σ.2.1 0)).2) H := hP
              refine W.eq (g2 := F0 m 80 ls [.int ((fX5_add σ p4 p3 (σ.2.1 0)).1)]) rfl ?_
              refine lv_istore (lv' := [(5, .int ((fX5_add σ p4 p3 (σ.2.1 0)).1)), (0, .ref (q 0)), (1, .int p1), (2, .int p2), (3, .int p3), (4, .int p4)]) hx hb dX6_join_80 hl (by decide) rfl (fun ls hl => ?_)
              refine lv_aload_n hx hb dX6_join_82 rfl (lv_at hl 1 rfl) ?_
              refine va_get (D := (dC, dI)) (ci := 6) (v := .ref (q 3)) (C := RX6) (T := TX6) (N := 6) hx hb hts inX6 hown hK hP 0 rfl rfl 1 (by decide) (hts _ fl_X6_19) (fun _ h9 => h9) rfl dX6_join_83 ?_
              refine lv_iload_n hx hb dX6_join_86 rfl (lv_at hl 2 rfl) ?_
              refine lv_iload_n hx hb dX6_join_87 rfl (lv_at hl 4 rfl) ?_
              refine lv_aload_n hx hb dX6_join_88 rfl (lv_at hl 1 rfl) ?_
              refine va_get (D := (dC, dI)) (ci := 6) (v := .int (((fX5_add σ p4 p3 (σ.2.1 0)).2).2.1 0)) (C := RX6) (T := TX6) (N := 6) hx hb hts inX6 hown hK hP 0 rfl rfl 5 (by decide) (hts _ fl_X6_48) (fun _ h9 => h9) rfl dX6_join_89 ?_
              refine lv_iconst (v := 3) hx hb dX6_join_92 (by decide) ?_
              refine lv_iload hx hb dX6_join_93 (lv_at hl 0 rfl) ?_
              refine xw_c (va_runV (As := [.int p1, .int p3, .int (((fX5_add σ p4 p3 (σ.2.1 0)).2).2.1 0), .int 3, .int ((fX5_add σ p4 p3 (σ.2.1 0)).1)]) (rest := []) ⟨hx, hb, hml, hown, hts⟩ (c_X5_finish l dC dI cI cJ q (fX5_add σ p4 p3 (σ.2.1 0)).2 p1 p3 (((fX5_add σ p4 p3 (σ.2.1 0)).2).2.1 0) 3 ((fX5_add σ p4 p3 (σ.2.1 0)).1) (by assumption) (canEnd_in hI c_11)) (cwV 5 hts (gV ml_X6_75 im_X5_finish se_X5_finish in_X5 co_X5_finish) rfl rfl rfl (by decide +kernel) ⟨Nat.le_of_ble_eq_true rfl, Nat.le_of_ble_eq_true rfl⟩) (preV hK hP (pos := 3) (ci := 5) rfl rfl) rfl rfl hl.1 rfl (lv_room (Nat.le_of_ble_eq_true rfl)) dX6_join_95 ⟨Nat.zero_le _, Nat.zero_le _⟩) hS (fun _ h => h) (fun H locs hP _ _ hS => ?_)
              have hP : va_P (dC, dI) vwCl (wT cI cJ q (fX5_finish (fX5_add σ p4 p3 (σ.2.1 0)).2 p1 p3 (((fX5_add σ p4 p3 (σ.2.1 0)).2).2.1 0) 3 ((fX5_add σ p4 p3 (σ.2.1 0)).1))) H := hP
              refine W.eq (g2 := F0 m 98 ls []) rfl ?_
              refine lv_aload_n hx hb dX6_join_98 rfl (lv_at hl 1 rfl) ?_
              refine va_get (D := (dC, dI)) (ci := 6) (v := .ref (q 3)) (C := RX6) (T := TX6) (N := 6) hx hb hts inX6 hown hK hP 0 rfl rfl 1 (by decide) (hts _ fl_X6_19) (fun _ h9 => h9) rfl dX6_join_99 ?_
              refine lv_iload_n hx hb dX6_join_102 rfl (lv_at hl 3 rfl) ?_
              refine lv_iload_n hx hb dX6_join_103 rfl (lv_at hl 4 rfl) ?_
              refine lv_aload_n hx hb dX6_join_104 rfl (lv_at hl 1 rfl) ?_
              refine va_get (D := (dC, dI)) (ci := 6) (v := .int ((fX5_finish (fX5_add σ p4 p3 (σ.2.1 0)).2 p1 p3 (((fX5_add σ p4 p3 (σ.2.1 0)).2).2.1 0) 3 ((fX5_add σ p4 p3 (σ.2.1 0)).1)).2.1 0)) (C := RX6) (T := TX6) (N := 6) hx hb hts inX6 hown hK hP 0 rfl rfl 5 (by decide) (hts _ fl_X6_48) (fun _ h9 => h9) rfl dX6_join_105 ?_
              refine lv_iconst (v := 3) hx hb dX6_join_108 (by decide) ?_
              refine lv_iload hx hb dX6_join_109 (lv_at hl 0 rfl) ?_
              refine xw_c (va_runV (As := [.int p2, .int p3, .int ((fX5_finish (fX5_add σ p4 p3 (σ.2.1 0)).2 p1 p3 (((fX5_add σ p4 p3 (σ.2.1 0)).2).2.1 0) 3 ((fX5_add σ p4 p3 (σ.2.1 0)).1)).2.1 0), .int 3, .int ((fX5_add σ p4 p3 (σ.2.1 0)).1)]) (rest := []) ⟨hx, hb, hml, hown, hts⟩ (c_X5_finish l dC dI cI cJ q (fX5_finish (fX5_add σ p4 p3 (σ.2.1 0)).2 p1 p3 (((fX5_add σ p4 p3 (σ.2.1 0)).2).2.1 0) 3 ((fX5_add σ p4 p3 (σ.2.1 0)).1)) p2 p3 ((fX5_finish (fX5_add σ p4 p3 (σ.2.1 0)).2 p1 p3 (((fX5_add σ p4 p3 (σ.2.1 0)).2).2.1 0) 3 ((fX5_add σ p4 p3 (σ.2.1 0)).1)).2.1 0) 3 ((fX5_add σ p4 p3 (σ.2.1 0)).1) (by assumption) (canEnd_in hI c_20)) (cwV 5 hts (gV ml_X6_75 im_X5_finish se_X5_finish in_X5 co_X5_finish) rfl rfl rfl (by decide +kernel) ⟨Nat.le_of_ble_eq_true rfl, Nat.le_of_ble_eq_true rfl⟩) (preV hK hP (pos := 3) (ci := 5) rfl rfl) rfl rfl hl.1 rfl (lv_room (Nat.le_of_ble_eq_true rfl)) dX6_join_111 ⟨Nat.zero_le _, Nat.zero_le _⟩) hS (fun _ h => h) (fun H locs hP _ _ hS => ?_)
              have hP : va_P (dC, dI) vwCl (wT cI cJ q (fX5_finish (fX5_finish (fX5_add σ p4 p3 (σ.2.1 0)).2 p1 p3 (((fX5_add σ p4 p3 (σ.2.1 0)).2).2.1 0) 3 ((fX5_add σ p4 p3 (σ.2.1 0)).1)) p2 p3 ((fX5_finish (fX5_add σ p4 p3 (σ.2.1 0)).2 p1 p3 (((fX5_add σ p4 p3 (σ.2.1 0)).2).2.1 0) 3 ((fX5_add σ p4 p3 (σ.2.1 0)).1)).2.1 0) 3 ((fX5_add σ p4 p3 (σ.2.1 0)).1))) H := hP
              refine W.eq (g2 := F0 m 114 ls []) rfl ?_
              refine lv_iload hx hb dX6_join_114 (lv_at hl 0 rfl) ?_
              have hF : fX6_join σ p1 p2 p3 p4 = ((fX5_add σ p4 p3 (σ.2.1 0)).1, (fX5_finish (fX5_finish (fX5_add σ p4 p3 (σ.2.1 0)).2 p1 p3 (((fX5_add σ p4 p3 (σ.2.1 0)).2).2.1 0) 3 ((fX5_add σ p4 p3 (σ.2.1 0)).1)) p2 p3 ((fX5_finish (fX5_add σ p4 p3 (σ.2.1 0)).2 p1 p3 (((fX5_add σ p4 p3 (σ.2.1 0)).2).2.1 0) 3 ((fX5_add σ p4 p3 (σ.2.1 0)).1)).2.1 0) 3 ((fX5_add σ p4 p3 (σ.2.1 0)).1))) := by rw [fX6_join, if_neg c_2, if_neg c_11, if_neg c_20, if_neg c_28, if_pos c_46, if_pos c_60]
              have hP9 : va_P (dC, dI) vwCl (wT cI cJ q (fX6_join σ p1 p2 p3 p4).2) H := by rw [hF]; exact hP
              exact W.iret (v := (fX5_add σ p4 p3 (σ.2.1 0)).1) hx hb hr (fun t ht hW => ⟨(by rw [hF]), by rw [ht]; exact hP9, hS.F ht⟩) hS.2.2 dX6_join_116
            · refine lv_bipush (v := (-4)) hx hb dX6_join_63 (by decide) ?_
              have hF : fX6_join σ p1 p2 p3 p4 = ((-4), σ) := by rw [fX6_join, if_neg c_2, if_neg c_11, if_neg c_20, if_neg c_28, if_pos c_46, if_neg c_60]
              have hP9 : va_P (dC, dI) vwCl (wT cI cJ q (fX6_join σ p1 p2 p3 p4).2) H := by rw [hF]; exact hP
              exact W.iret (v := (-4)) hx hb hr (fun t ht hW => ⟨(by rw [hF]), by rw [ht]; exact hP9, hS.F ht⟩) hS.2.2 dX6_join_65
          · refine lv_bipush (v := (-3)) hx hb dX6_join_49 (by decide) ?_
            have hF : fX6_join σ p1 p2 p3 p4 = ((-3), σ) := by rw [fX6_join, if_neg c_2, if_neg c_11, if_neg c_20, if_neg c_28, if_neg c_46]
            have hP9 : va_P (dC, dI) vwCl (wT cI cJ q (fX6_join σ p1 p2 p3 p4).2) H := by rw [hF]; exact hP
            exact W.iret (v := (-3)) hx hb hr (fun t ht hW => ⟨(by rw [hF]), by rw [ht]; exact hP9, hS.F ht⟩) hS.2.2 dX6_join_51
        · refine lv_bipush (v := (-2)) hx hb dX6_join_31 (by decide) ?_
          have hF : fX6_join σ p1 p2 p3 p4 = ((-2), σ) := by rw [fX6_join, if_neg c_2, if_neg c_11, if_neg c_20, if_pos c_28]
          have hP9 : va_P (dC, dI) vwCl (wT cI cJ q (fX6_join σ p1 p2 p3 p4).2) H := by rw [hF]; exact hP
          exact W.iret (v := (-2)) hx hb hr (fun t ht hW => ⟨(by rw [hF]), by rw [ht]; exact hP9, hS.F ht⟩) hS.2.2 dX6_join_33

def fX6_mark (σ : St) (p1 : Int32) (p2 : Int32) (p3 : Int32) (p4 : Int32) : Int32 × St :=
  (if (fX5_has σ p1) = 0 then (0, σ) else (if (fX6_isMark σ p2) = 0 then (0, σ) else (if (fX6_isDay σ p3) = 0 then (0, σ) else (if p4 < 0 then (0, σ) else (if p4 ≤ 99 then (if (fX3_isFull_T σ) = 0 then (if p2 = 0 then (if (fX6_isFixed σ p1) = 0 then (1, (fX4_add σ p1 p2 p3 p4 (σ.2.1 0))) else (0, σ)) else (1, (fX4_add σ p1 p2 p3 p4 (σ.2.1 0)))) else (0, σ)) else (0, σ))))))
set_option maxHeartbeats 4000000 in
set_option maxRecDepth 100000 in
theorem c_X6_mark (l : Launch) (dC : Nat → ClassId) (dI : Nat → Nat → Nat) (cI cJ : ClassId) (q : Nat → Nat) (σ : St) (p1 : Int32) (p2 : Int32) (p3 : Int32) (p4 : Int32) (hd : dT 30 q) (hI : IB σ) : Met l yX6_mark (.code yX6_mark cX6_mark 5 (some .boolean) :: tb) { frames := 4, cells := 0, slots := 0, locals := 91 } (Pu (dC, dI) (tyC cI cJ) (wT cI cJ q σ) [.ref (q 0), .int p1, .int p2, .int p3, .int p4]) (xw_Q (some (.int (fX6_mark σ p1 p2 p3 p4).1)) (dC, dI) (wT cI cJ q (fX6_mark σ p1 p2 p3 p4).2) (aT 30 q)) 0 0 (aT 30 q) := by
  refine Met.ofW (cc := cX6_mark) (maxL := 5) (ret := (some .boolean)) (by decide) rfl ?_
  intro p e s m args below meth c s₁ B hml hv
  obtain ⟨rfl, hP, hK⟩ := hv
  have hx := B.exec
  have hb := B.bytes
  have hr := B.returns
  have hts0 := atoms_spec (ws := .code yX6_mark cX6_mark 5 (some .boolean) :: tb) B.pre
  have hts : ∀ w ∈ tb, w.before _ s = true := fun w hw => hts0 w (List.mem_cons_of_mem _ hw)
  have hown : s.vm.findClass RX6 = some m.cls := findClass_of_methodNamed B.named
  have hlocks := B.notSynchronized
  have hl := lv_entry ([.ref (q 0), .int p1, .int p2, .int p3, .int p4]) (n := 5) (Nat.le_of_ble_eq_true rfl)
  rw [lg_entry_eq]
  generalize (lg_sl ([.ref (q 0), .int p1, .int p2, .int p3, .int p4]) ++ List.replicate (5 - (lg_sl ([.ref (q 0), .int p1, .int p2, .int p3, .int p4])).length) Slot.unset).toArray = ls at hl ⊢
  have hl : lv_has ls 5 [(0, .ref (q 0)), (1, .int p1), (2, .int p2), (3, .int p3), (4, .int p4)] := hl
  obtain ⟨H, hHe⟩ : ∃ H, s.heap = H := ⟨_, rfl⟩
  rw [hHe] at hP ⊢
  obtain ⟨locs, hLe⟩ : ∃ x : List Loc, ([] : List Loc) = x := ⟨_, rfl⟩
  rw [hLe]
  have hS : va_S (aT 30 q) s.heap H locs := by rw [← hHe, ← hLe]; exact va_S.rf
  refine lv_aload_n hx hb dX6_mark_0 rfl (lv_at hl 0 rfl) ?_
  refine va_get (D := (dC, dI)) (ci := 6) (v := .ref (q 3)) (C := RX6) (T := TX6) (N := 6) hx hb hts inX6 hown hK hP 0 rfl rfl 1 (by decide) (hts _ fl_X6_19) (fun _ h9 => h9) rfl dX6_mark_1 ?_
  refine lv_iload_n hx hb dX6_mark_4 rfl (lv_at hl 1 rfl) ?_
  refine xc_i (va_runV (As := [.int p1]) (rest := []) ⟨hx, hb, hml, hown, hts⟩ (c_X5_has l dC dI cI cJ q σ p1) (cwV 1 hts (gV ml_X6_86 im_X5_has se_X5_has in_X5 co_X5_has) rfl rfl rfl (by decide +kernel) ⟨Nat.le_of_ble_eq_true rfl, Nat.le_of_ble_eq_true rfl⟩) (preV hK hP (pos := 3) (ci := 5) rfl rfl) rfl rfl hl.1 rfl (lv_room (Nat.le_of_ble_eq_true rfl)) dX6_mark_5 ⟨Nat.zero_le _, Nat.zero_le _⟩) ?_
  refine lv_if_eq (tgt := 37) hx hb dX6_mark_8 (by decide) (fun c_8 => ?_) (fun c_8 => ?_)
  · refine lv_iconst (v := 0) hx hb dX6_mark_37 (by decide) ?_
    have hF : fX6_mark σ p1 p2 p3 p4 = (0, σ) := by rw [fX6_mark, if_pos c_8]
    have hP9 : va_P (dC, dI) vwCl (wT cI cJ q (fX6_mark σ p1 p2 p3 p4).2) H := by rw [hF]; exact hP
    exact W.zret (v := 0) hx hb hr narrow_b0 (fun t ht hW => ⟨(by rw [hF]), by rw [ht]; exact hP9, hS.F ht⟩) hS.2.2 dX6_mark_38
  · refine lv_iload_n hx hb dX6_mark_11 rfl (lv_at hl 2 rfl) ?_
    refine xc_i (va_runS (As := [.int p2]) (rest := []) ⟨hx, hb, hml, hown, hts⟩ (c_X6_isMark l dC dI cI cJ q σ p2) (va_cwS 1 hts (gS ml_X6_89 st_X6_isMark in_X6 co_X6_isMark) rfl rfl rfl (by decide +kernel) ⟨Nat.le_of_ble_eq_true rfl, Nat.le_of_ble_eq_true rfl⟩) (preS hK hP) rfl rfl hl.1 rfl (lv_room (Nat.le_of_ble_eq_true rfl)) dX6_mark_12 ⟨Nat.zero_le _, Nat.zero_le _⟩) ?_
    refine lv_if_eq (tgt := 37) hx hb dX6_mark_15 (by decide) (fun c_15 => ?_) (fun c_15 => ?_)
    · refine lv_iconst (v := 0) hx hb dX6_mark_37 (by decide) ?_
      have hF : fX6_mark σ p1 p2 p3 p4 = (0, σ) := by rw [fX6_mark, if_neg c_8, if_pos c_15]
      have hP9 : va_P (dC, dI) vwCl (wT cI cJ q (fX6_mark σ p1 p2 p3 p4).2) H := by rw [hF]; exact hP
      exact W.zret (v := 0) hx hb hr narrow_b0 (fun t ht hW => ⟨(by rw [hF]), by rw [ht]; exact hP9, hS.F ht⟩) hS.2.2 dX6_mark_38
    · refine lv_iload_n hx hb dX6_mark_18 rfl (lv_at hl 3 rfl) ?_
      refine xc_i (va_runS (As := [.int p3]) (rest := []) ⟨hx, hb, hml, hown, hts⟩ (c_X6_isDay l dC dI cI cJ q σ p3) (va_cwS 1 hts (gS ml_X6_56 st_X6_isDay in_X6 co_X6_isDay) rfl rfl rfl (by decide +kernel) ⟨Nat.le_of_ble_eq_true rfl, Nat.le_of_ble_eq_true rfl⟩) (preS hK hP) rfl rfl hl.1 rfl (lv_room (Nat.le_of_ble_eq_true rfl)) dX6_mark_19 ⟨Nat.zero_le _, Nat.zero_le _⟩) ?_
      refine lv_if_eq (tgt := 37) hx hb dX6_mark_22 (by decide) (fun c_22 => ?_) (fun c_22 => ?_)
      · refine lv_iconst (v := 0) hx hb dX6_mark_37 (by decide) ?_
        have hF : fX6_mark σ p1 p2 p3 p4 = (0, σ) := by rw [fX6_mark, if_neg c_8, if_neg c_15, if_pos c_22]
        have hP9 : va_P (dC, dI) vwCl (wT cI cJ q (fX6_mark σ p1 p2 p3 p4).2) H := by rw [hF]; exact hP
        exact W.zret (v := 0) hx hb hr narrow_b0 (fun t ht hW => ⟨(by rw [hF]), by rw [ht]; exact hP9, hS.F ht⟩) hS.2.2 dX6_mark_38
      · refine lv_iload hx hb dX6_mark_25 (lv_at hl 4 rfl) ?_
        refine lv_if_lt (tgt := 37) hx hb dX6_mark_27 (by decide) (fun c_27 => ?_) (fun c_27 => ?_)
        · refine lv_iconst (v := 0) hx hb dX6_mark_37 (by decide) ?_
          have hF : fX6_mark σ p1 p2 p3 p4 = (0, σ) := by rw [fX6_mark, if_neg c_8, if_neg c_15, if_neg c_22, if_pos c_27]
          have hP9 : va_P (dC, dI) vwCl (wT cI cJ q (fX6_mark σ p1 p2 p3 p4).2) H := by rw [hF]; exact hP
          exact W.zret (v := 0) hx hb hr narrow_b0 (fun t ht hW => ⟨(by rw [hF]), by rw [ht]; exact hP9, hS.F ht⟩) hS.2.2 dX6_mark_38
        · refine lv_iload hx hb dX6_mark_30 (lv_at hl 4 rfl) ?_
          refine lv_bipush (v := 99) hx hb dX6_mark_32 (by decide) ?_
          refine lv_icmp_le (tgt := 39) hx hb dX6_mark_34 (by decide) (fun c_34 => ?_) (fun c_34 => ?_)
          · refine lv_aload_n hx hb dX6_mark_39 rfl (lv_at hl 0 rfl) ?_
            refine va_get (D := (dC, dI)) (ci := 6) (v := .ref (q 13)) (C := RX6) (T := TX6) (N := 6) hx hb hts inX6 hown hK hP 0 rfl rfl 2 (by decide) (hts _ fl_X6_28) (fun _ h9 => h9) rfl dX6_mark_40 ?_
            refine xc_i (va_runV (As := []) (rest := []) ⟨hx, hb, hml, hown, hts⟩ (c_X4_isFull l dC dI cI cJ q σ ) (cwV 0 hts (gV ml_X6_92 im_X4_isFull se_X4_isFull in_X4 co_X4_isFull) rfl rfl rfl (by decide +kernel) ⟨Nat.le_of_ble_eq_true rfl, Nat.le_of_ble_eq_true rfl⟩) (preV hK hP (pos := 13) (ci := 4) rfl rfl) rfl rfl hl.1 rfl (lv_room (Nat.le_of_ble_eq_true rfl)) dX6_mark_43 ⟨Nat.zero_le _, Nat.zero_le _⟩) ?_
            refine lv_if_ne (tgt := 61) hx hb dX6_mark_46 (by decide) (fun c_46 => ?_) (fun c_46 => ?_)
            · refine lv_iconst (v := 0) hx hb dX6_mark_61 (by decide) ?_
              have hF : fX6_mark σ p1 p2 p3 p4 = (0, σ) := by rw [fX6_mark, if_neg c_8, if_neg c_15, if_neg c_22, if_neg c_27, if_pos c_34, if_neg c_46]
              have hP9 : va_P (dC, dI) vwCl (wT cI cJ q (fX6_mark σ p1 p2 p3 p4).2) H := by rw [hF]; exact hP
              exact W.zret (v := 0) hx hb hr narrow_b0 (fun t ht hW => ⟨(by rw [hF]), by rw [ht]; exact hP9, hS.F ht⟩) hS.2.2 dX6_mark_62
            · refine lv_iload_n hx hb dX6_mark_49 rfl (lv_at hl 2 rfl) ?_
              refine lv_if_ne (tgt := 63) hx hb dX6_mark_50 (by decide) (fun c_50 => ?_) (fun c_50 => ?_)
              · refine lv_aload_n hx hb dX6_mark_63 rfl (lv_at hl 0 rfl) ?_
                refine va_get (D := (dC, dI)) (ci := 6) (v := .ref (q 13)) (C := RX6) (T := TX6) (N := 6) hx hb hts inX6 hown hK hP 0 rfl rfl 2 (by decide) (hts _ fl_X6_28) (fun _ h9 => h9) rfl dX6_mark_64 ?_
                refine lv_iload_n hx hb dX6_mark_67 rfl (lv_at hl 1 rfl) ?_
                refine lv_iload_n hx hb dX6_mark_68 rfl (lv_at hl 2 rfl) ?_
                refine lv_iload_n hx hb dX6_mark_69 rfl (lv_at hl 3 rfl) ?_
                refine lv_iload hx hb dX6_mark_70 (lv_at hl 4 rfl) ?_
                refine lv_aload_n hx hb dX6_mark_72 rfl (lv_at hl 0 rfl) ?_
                refine va_get (D := (dC, dI)) (ci := 6) (v := .int (σ.2.1 0)) (C := RX6) (T := TX6) (N := 6) hx hb hts inX6 hown hK hP 0 rfl rfl 5 (by decide) (hts _ fl_X6_48) (fun _ h9 => h9) rfl dX6_mark_73 ?_
                refine xw_c (va_runV (As := [.int p1, .int p2, .int p3, .int p4, .int (σ.2.1 0)]) (rest := []) ⟨hx, hb, hml, hown, hts⟩ (c_X4_add l dC dI cI cJ q σ p1 p2 p3 p4 (σ.2.1 0) (by assumption) (by assumption)) (cwV 5 hts (gV ml_X6_99 im_X4_add se_X4_add in_X4 co_X4_add) rfl rfl rfl (by decide +kernel) ⟨Nat.le_of_ble_eq_true rfl, Nat.le_of_ble_eq_true rfl⟩) (preV hK hP (pos := 13) (ci := 4) rfl rfl) rfl rfl hl.1 rfl (lv_room (Nat.le_of_ble_eq_true rfl)) dX6_mark_76 ⟨Nat.zero_le _, Nat.zero_le _⟩) hS (fun _ h => h) (fun H locs hP _ _ hS => ?_)
                have hP : va_P (dC, dI) vwCl (wT cI cJ q (fX4_add σ p1 p2 p3 p4 (σ.2.1 0))) H := hP
                refine W.eq (g2 := F0 m 79 ls []) rfl ?_
                refine lv_iconst (v := 1) hx hb dX6_mark_79 (by decide) ?_
                have hF : fX6_mark σ p1 p2 p3 p4 = (1, (fX4_add σ p1 p2 p3 p4 (σ.2.1 0))) := by rw [fX6_mark, if_neg c_8, if_neg c_15, if_neg c_22, if_neg c_27, if_pos c_34, if_pos c_46, if_neg c_50]
                have hP9 : va_P (dC, dI) vwCl (wT cI cJ q (fX6_mark σ p1 p2 p3 p4).2) H := by rw [hF]; exact hP
                exact W.zret (v := 1) hx hb hr narrow_b1 (fun t ht hW => ⟨(by rw [hF]), by rw [ht]; exact hP9, hS.F ht⟩) hS.2.2 dX6_mark_80
              · refine lv_aload_n hx hb dX6_mark_53 rfl (lv_at hl 0 rfl) ?_
                refine lv_iload_n hx hb dX6_mark_54 rfl (lv_at hl 1 rfl) ?_
                refine xc_i (va_runV (As := [.int p1]) (rest := []) ⟨hx, hb, hml, hown, hts⟩ (c_X6_isFixed l dC dI cI cJ q σ p1 (by assumption)) (cwV 1 hts (gV ml_X6_96 im_X6_isFixed se_X6_isFixed in_X6 co_X6_isFixed) rfl rfl rfl (by decide +kernel) ⟨Nat.le_of_ble_eq_true rfl, Nat.le_of_ble_eq_true rfl⟩) (preV hK hP (pos := 0) (ci := 6) rfl rfl) rfl rfl hl.1 rfl (lv_room (Nat.le_of_ble_eq_true rfl)) dX6_mark_55 ⟨Nat.zero_le _, Nat.zero_le _⟩) ?_
                refine lv_if_eq (tgt := 63) hx hb dX6_mark_58 (by decide) (fun c_58 => ?_) (fun c_58 => ?_)
                · refine lv_aload_n hx hb dX6_mark_63 rfl (lv_at hl 0 rfl) ?_
                  refine va_get (D := (dC, dI)) (ci := 6) (v := .ref (q 13)) (C := RX6) (T := TX6) (N := 6) hx hb hts inX6 hown hK hP 0 rfl rfl 2 (by decide) (hts _ fl_X6_28) (fun _ h9 => h9) rfl dX6_mark_64 ?_
                  refine lv_iload_n hx hb dX6_mark_67 rfl (lv_at hl 1 rfl) ?_
                  refine lv_iload_n hx hb dX6_mark_68 rfl (lv_at hl 2 rfl) ?_
                  refine lv_iload_n hx hb dX6_mark_69 rfl (lv_at hl 3 rfl) ?_
                  refine lv_iload hx hb dX6_mark_70 (lv_at hl 4 rfl) ?_
                  refine lv_aload_n hx hb dX6_mark_72 rfl (lv_at hl 0 rfl) ?_
                  refine va_get (D := (dC, dI)) (ci := 6) (v := .int (σ.2.1 0)) (C := RX6) (T := TX6) (N := 6) hx hb hts inX6 hown hK hP 0 rfl rfl 5 (by decide) (hts _ fl_X6_48) (fun _ h9 => h9) rfl dX6_mark_73 ?_
                  refine xw_c (va_runV (As := [.int p1, .int p2, .int p3, .int p4, .int (σ.2.1 0)]) (rest := []) ⟨hx, hb, hml, hown, hts⟩ (c_X4_add l dC dI cI cJ q σ p1 p2 p3 p4 (σ.2.1 0) (by assumption) (by assumption)) (cwV 5 hts (gV ml_X6_99 im_X4_add se_X4_add in_X4 co_X4_add) rfl rfl rfl (by decide +kernel) ⟨Nat.le_of_ble_eq_true rfl, Nat.le_of_ble_eq_true rfl⟩) (preV hK hP (pos := 13) (ci := 4) rfl rfl) rfl rfl hl.1 rfl (lv_room (Nat.le_of_ble_eq_true rfl)) dX6_mark_76 ⟨Nat.zero_le _, Nat.zero_le _⟩) hS (fun _ h => h) (fun H locs hP _ _ hS => ?_)
                  have hP : va_P (dC, dI) vwCl (wT cI cJ q (fX4_add σ p1 p2 p3 p4 (σ.2.1 0))) H := hP
                  refine W.eq (g2 := F0 m 79 ls []) rfl ?_
                  refine lv_iconst (v := 1) hx hb dX6_mark_79 (by decide) ?_
                  have hF : fX6_mark σ p1 p2 p3 p4 = (1, (fX4_add σ p1 p2 p3 p4 (σ.2.1 0))) := by rw [fX6_mark, if_neg c_8, if_neg c_15, if_neg c_22, if_neg c_27, if_pos c_34, if_pos c_46, if_pos c_50, if_pos c_58]
                  have hP9 : va_P (dC, dI) vwCl (wT cI cJ q (fX6_mark σ p1 p2 p3 p4).2) H := by rw [hF]; exact hP
                  exact W.zret (v := 1) hx hb hr narrow_b1 (fun t ht hW => ⟨(by rw [hF]), by rw [ht]; exact hP9, hS.F ht⟩) hS.2.2 dX6_mark_80
                · refine lv_iconst (v := 0) hx hb dX6_mark_61 (by decide) ?_
                  have hF : fX6_mark σ p1 p2 p3 p4 = (0, σ) := by rw [fX6_mark, if_neg c_8, if_neg c_15, if_neg c_22, if_neg c_27, if_pos c_34, if_pos c_46, if_pos c_50, if_neg c_58]
                  have hP9 : va_P (dC, dI) vwCl (wT cI cJ q (fX6_mark σ p1 p2 p3 p4).2) H := by rw [hF]; exact hP
                  exact W.zret (v := 0) hx hb hr narrow_b0 (fun t ht hW => ⟨(by rw [hF]), by rw [ht]; exact hP9, hS.F ht⟩) hS.2.2 dX6_mark_62
          · refine lv_iconst (v := 0) hx hb dX6_mark_37 (by decide) ?_
            have hF : fX6_mark σ p1 p2 p3 p4 = (0, σ) := by rw [fX6_mark, if_neg c_8, if_neg c_15, if_neg c_22, if_neg c_27, if_neg c_34]
            have hP9 : va_P (dC, dI) vwCl (wT cI cJ q (fX6_mark σ p1 p2 p3 p4).2) H := by rw [hF]; exact hP
            exact W.zret (v := 0) hx hb hr narrow_b0 (fun t ht hW => ⟨(by rw [hF]), by rw [ht]; exact hP9, hS.F ht⟩) hS.2.2 dX6_mark_38

def fX6_fact (σ : St) (p1 : Int32) (p2 : Int32) (p3 : Int32) : Int32 × St :=
  (if (fX6_isCode σ p1) = 0 then ((-1), σ) else (if (fX6_isDay σ p2) = 0 then ((-1), σ) else (if p3 < (-10000) then ((-1), σ) else (if 10000 < p3 then ((-1), σ) else (if (fX3_isFull_F σ) = 0 then ((fX1_add σ p1 p2 p3 (σ.2.1 0)).1, (fX1_add σ p1 p2 p3 (σ.2.1 0)).2) else ((-1), σ))))))
set_option maxHeartbeats 4000000 in
set_option maxRecDepth 100000 in
theorem c_X6_fact (l : Launch) (dC : Nat → ClassId) (dI : Nat → Nat → Nat) (cI cJ : ClassId) (q : Nat → Nat) (σ : St) (p1 : Int32) (p2 : Int32) (p3 : Int32) (hd : dT 30 q) (hI : IB σ) : Met l yX6_fact (.code yX6_fact cX6_fact 4 (some .int) :: tb) { frames := 3, cells := 0, slots := 0, locals := 66 } (Pu (dC, dI) (tyC cI cJ) (wT cI cJ q σ) [.ref (q 0), .int p1, .int p2, .int p3]) (xw_Q (some (.int (fX6_fact σ p1 p2 p3).1)) (dC, dI) (wT cI cJ q (fX6_fact σ p1 p2 p3).2) (aT 30 q)) 0 0 (aT 30 q) := by
  refine Met.ofW (cc := cX6_fact) (maxL := 4) (ret := (some .int)) (by decide) rfl ?_
  intro p e s m args below meth c s₁ B hml hv
  obtain ⟨rfl, hP, hK⟩ := hv
  have hx := B.exec
  have hb := B.bytes
  have hr := B.returns
  have hts0 := atoms_spec (ws := .code yX6_fact cX6_fact 4 (some .int) :: tb) B.pre
  have hts : ∀ w ∈ tb, w.before _ s = true := fun w hw => hts0 w (List.mem_cons_of_mem _ hw)
  have hown : s.vm.findClass RX6 = some m.cls := findClass_of_methodNamed B.named
  have hlocks := B.notSynchronized
  have hl := lv_entry ([.ref (q 0), .int p1, .int p2, .int p3]) (n := 4) (Nat.le_of_ble_eq_true rfl)
  rw [lg_entry_eq]
  generalize (lg_sl ([.ref (q 0), .int p1, .int p2, .int p3]) ++ List.replicate (4 - (lg_sl ([.ref (q 0), .int p1, .int p2, .int p3])).length) Slot.unset).toArray = ls at hl ⊢
  have hl : lv_has ls 4 [(0, .ref (q 0)), (1, .int p1), (2, .int p2), (3, .int p3)] := hl
  obtain ⟨H, hHe⟩ : ∃ H, s.heap = H := ⟨_, rfl⟩
  rw [hHe] at hP ⊢
  obtain ⟨locs, hLe⟩ : ∃ x : List Loc, ([] : List Loc) = x := ⟨_, rfl⟩
  rw [hLe]
  have hS : va_S (aT 30 q) s.heap H locs := by rw [← hHe, ← hLe]; exact va_S.rf
  refine lv_iload_n hx hb dX6_fact_0 rfl (lv_at hl 1 rfl) ?_
  refine xc_i (va_runS (As := [.int p1]) (rest := []) ⟨hx, hb, hml, hown, hts⟩ (c_X6_isCode l dC dI cI cJ q σ p1) (va_cwS 1 hts (gS ml_X6_52 st_X6_isCode in_X6 co_X6_isCode) rfl rfl rfl (by decide +kernel) ⟨Nat.le_of_ble_eq_true rfl, Nat.le_of_ble_eq_true rfl⟩) (preS hK hP) rfl rfl hl.1 rfl (lv_room (Nat.le_of_ble_eq_true rfl)) dX6_fact_1 ⟨Nat.zero_le _, Nat.zero_le _⟩) ?_
  refine lv_if_eq (tgt := 38) hx hb dX6_fact_4 (by decide) (fun c_4 => ?_) (fun c_4 => ?_)
  · refine lv_iconst (v := (-1)) hx hb dX6_fact_38 (by decide) ?_
    have hF : fX6_fact σ p1 p2 p3 = ((-1), σ) := by rw [fX6_fact, if_pos c_4]
    have hP9 : va_P (dC, dI) vwCl (wT cI cJ q (fX6_fact σ p1 p2 p3).2) H := by rw [hF]; exact hP
    exact W.iret (v := (-1)) hx hb hr (fun t ht hW => ⟨(by rw [hF]), by rw [ht]; exact hP9, hS.F ht⟩) hS.2.2 dX6_fact_39
  · refine lv_iload_n hx hb dX6_fact_7 rfl (lv_at hl 2 rfl) ?_
    refine xc_i (va_runS (As := [.int p2]) (rest := []) ⟨hx, hb, hml, hown, hts⟩ (c_X6_isDay l dC dI cI cJ q σ p2) (va_cwS 1 hts (gS ml_X6_56 st_X6_isDay in_X6 co_X6_isDay) rfl rfl rfl (by decide +kernel) ⟨Nat.le_of_ble_eq_true rfl, Nat.le_of_ble_eq_true rfl⟩) (preS hK hP) rfl rfl hl.1 rfl (lv_room (Nat.le_of_ble_eq_true rfl)) dX6_fact_8 ⟨Nat.zero_le _, Nat.zero_le _⟩) ?_
    refine lv_if_eq (tgt := 38) hx hb dX6_fact_11 (by decide) (fun c_11 => ?_) (fun c_11 => ?_)
    · refine lv_iconst (v := (-1)) hx hb dX6_fact_38 (by decide) ?_
      have hF : fX6_fact σ p1 p2 p3 = ((-1), σ) := by rw [fX6_fact, if_neg c_4, if_pos c_11]
      have hP9 : va_P (dC, dI) vwCl (wT cI cJ q (fX6_fact σ p1 p2 p3).2) H := by rw [hF]; exact hP
      exact W.iret (v := (-1)) hx hb hr (fun t ht hW => ⟨(by rw [hF]), by rw [ht]; exact hP9, hS.F ht⟩) hS.2.2 dX6_fact_39
    · refine lv_iload_n hx hb dX6_fact_14 rfl (lv_at hl 3 rfl) ?_
      refine lv_sipush (v := (-10000)) hx hb dX6_fact_15 (by decide) ?_
      refine lv_icmp_lt (tgt := 38) hx hb dX6_fact_18 (by decide) (fun c_18 => ?_) (fun c_18 => ?_)
      · refine lv_iconst (v := (-1)) hx hb dX6_fact_38 (by decide) ?_
        have hF : fX6_fact σ p1 p2 p3 = ((-1), σ) := by rw [fX6_fact, if_neg c_4, if_neg c_11, if_pos c_18]
        have hP9 : va_P (dC, dI) vwCl (wT cI cJ q (fX6_fact σ p1 p2 p3).2) H := by rw [hF]; exact hP
        exact W.iret (v := (-1)) hx hb hr (fun t ht hW => ⟨(by rw [hF]), by rw [ht]; exact hP9, hS.F ht⟩) hS.2.2 dX6_fact_39
      · refine lv_iload_n hx hb dX6_fact_21 rfl (lv_at hl 3 rfl) ?_
        refine lv_sipush (v := 10000) hx hb dX6_fact_22 (by decide) ?_
        refine lv_icmp_gt (tgt := 38) hx hb dX6_fact_25 (by decide) (fun c_25 => ?_) (fun c_25 => ?_)
        · refine lv_iconst (v := (-1)) hx hb dX6_fact_38 (by decide) ?_
          have hF : fX6_fact σ p1 p2 p3 = ((-1), σ) := by rw [fX6_fact, if_neg c_4, if_neg c_11, if_neg c_18, if_pos c_25]
          have hP9 : va_P (dC, dI) vwCl (wT cI cJ q (fX6_fact σ p1 p2 p3).2) H := by rw [hF]; exact hP
          exact W.iret (v := (-1)) hx hb hr (fun t ht hW => ⟨(by rw [hF]), by rw [ht]; exact hP9, hS.F ht⟩) hS.2.2 dX6_fact_39
        · refine lv_aload_n hx hb dX6_fact_28 rfl (lv_at hl 0 rfl) ?_
          refine va_get (D := (dC, dI)) (ci := 6) (v := .ref (q 21)) (C := RX6) (T := TX6) (N := 6) hx hb hts inX6 hown hK hP 0 rfl rfl 3 (by decide) (hts _ fl_X6_35) (fun _ h9 => h9) rfl dX6_fact_29 ?_
          refine xc_i (va_runV (As := []) (rest := []) ⟨hx, hb, hml, hown, hts⟩ (c_X1_isFull l dC dI cI cJ q σ ) (cwV 0 hts (gV ml_X6_101 im_X1_isFull se_X1_isFull in_X1 co_X1_isFull) rfl rfl rfl (by decide +kernel) ⟨Nat.le_of_ble_eq_true rfl, Nat.le_of_ble_eq_true rfl⟩) (preV hK hP (pos := 21) (ci := 1) rfl rfl) rfl rfl hl.1 rfl (lv_room (Nat.le_of_ble_eq_true rfl)) dX6_fact_32 ⟨Nat.zero_le _, Nat.zero_le _⟩) ?_
          refine lv_if_eq (tgt := 40) hx hb dX6_fact_35 (by decide) (fun c_35 => ?_) (fun c_35 => ?_)
          · refine lv_aload_n hx hb dX6_fact_40 rfl (lv_at hl 0 rfl) ?_
            refine va_get (D := (dC, dI)) (ci := 6) (v := .ref (q 21)) (C := RX6) (T := TX6) (N := 6) hx hb hts inX6 hown hK hP 0 rfl rfl 3 (by decide) (hts _ fl_X6_35) (fun _ h9 => h9) rfl dX6_fact_41 ?_
            refine lv_iload_n hx hb dX6_fact_44 rfl (lv_at hl 1 rfl) ?_
            refine lv_iload_n hx hb dX6_fact_45 rfl (lv_at hl 2 rfl) ?_
            refine lv_iload_n hx hb dX6_fact_46 rfl (lv_at hl 3 rfl) ?_
            refine lv_aload_n hx hb dX6_fact_47 rfl (lv_at hl 0 rfl) ?_
            refine va_get (D := (dC, dI)) (ci := 6) (v := .int (σ.2.1 0)) (C := RX6) (T := TX6) (N := 6) hx hb hts inX6 hown hK hP 0 rfl rfl 5 (by decide) (hts _ fl_X6_48) (fun _ h9 => h9) rfl dX6_fact_48 ?_
            refine xw_c (va_runV (As := [.int p1, .int p2, .int p3, .int (σ.2.1 0)]) (rest := []) ⟨hx, hb, hml, hown, hts⟩ (c_X1_add l dC dI cI cJ q σ p1 p2 p3 (σ.2.1 0) (by assumption) (by assumption)) (cwV 4 hts (gV ml_X6_102 im_X1_add se_X1_add in_X1 co_X1_add) rfl rfl rfl (by decide +kernel) ⟨Nat.le_of_ble_eq_true rfl, Nat.le_of_ble_eq_true rfl⟩) (preV hK hP (pos := 21) (ci := 1) rfl rfl) rfl rfl hl.1 rfl (lv_room (Nat.le_of_ble_eq_true rfl)) dX6_fact_51 ⟨Nat.zero_le _, Nat.zero_le _⟩) hS (fun _ h => h) (fun H locs hP _ _ hS => ?_)
            have hP : va_P (dC, dI) vwCl (wT cI cJ q (fX1_add σ p1 p2 p3 (σ.2.1 0)).2) H := hP
            refine W.eq (g2 := F0 m 54 ls [.int ((fX1_add σ p1 p2 p3 (σ.2.1 0)).1)]) rfl ?_
            have hF : fX6_fact σ p1 p2 p3 = ((fX1_add σ p1 p2 p3 (σ.2.1 0)).1, (fX1_add σ p1 p2 p3 (σ.2.1 0)).2) := by rw [fX6_fact, if_neg c_4, if_neg c_11, if_neg c_18, if_neg c_25, if_pos c_35]
            have hP9 : va_P (dC, dI) vwCl (wT cI cJ q (fX6_fact σ p1 p2 p3).2) H := by rw [hF]; exact hP
            exact W.iret (v := (fX1_add σ p1 p2 p3 (σ.2.1 0)).1) hx hb hr (fun t ht hW => ⟨(by rw [hF]), by rw [ht]; exact hP9, hS.F ht⟩) hS.2.2 dX6_fact_54
          · refine lv_iconst (v := (-1)) hx hb dX6_fact_38 (by decide) ?_
            have hF : fX6_fact σ p1 p2 p3 = ((-1), σ) := by rw [fX6_fact, if_neg c_4, if_neg c_11, if_neg c_18, if_neg c_25, if_neg c_35]
            have hP9 : va_P (dC, dI) vwCl (wT cI cJ q (fX6_fact σ p1 p2 p3).2) H := by rw [hF]; exact hP
            exact W.iret (v := (-1)) hx hb hr (fun t ht hW => ⟨(by rw [hF]), by rw [ht]; exact hP9, hS.F ht⟩) hS.2.2 dX6_fact_39

def fX6_load (σ : St) : Int32 × St :=
  ((fX2_openNext σ).1, (fX2_openNext σ).2)
set_option maxHeartbeats 4000000 in
set_option maxRecDepth 100000 in
theorem c_X6_load (l : Launch) (dC : Nat → ClassId) (dI : Nat → Nat → Nat) (cI cJ : ClassId) (q : Nat → Nat) (σ : St) (hd : dT 30 q) (hI : IB σ) : Met l yX6_load (.code yX6_load cX6_load 1 (some .int) :: tb) { frames := 2, cells := 0, slots := 0, locals := 40 } (Pu (dC, dI) (tyC cI cJ) (wT cI cJ q σ) [.ref (q 0)]) (xw_Q (some (.int (fX6_load σ).1)) (dC, dI) (wT cI cJ q (fX6_load σ).2) (aT 30 q)) 0 0 (aT 30 q) := by
  refine Met.ofW (cc := cX6_load) (maxL := 1) (ret := (some .int)) (by decide) rfl ?_
  intro p e s m args below meth c s₁ B hml hv
  obtain ⟨rfl, hP, hK⟩ := hv
  have hx := B.exec
  have hb := B.bytes
  have hr := B.returns
  have hts0 := atoms_spec (ws := .code yX6_load cX6_load 1 (some .int) :: tb) B.pre
  have hts : ∀ w ∈ tb, w.before _ s = true := fun w hw => hts0 w (List.mem_cons_of_mem _ hw)
  have hown : s.vm.findClass RX6 = some m.cls := findClass_of_methodNamed B.named
  have hlocks := B.notSynchronized
  have hl := lv_entry ([.ref (q 0)]) (n := 1) (Nat.le_of_ble_eq_true rfl)
  rw [lg_entry_eq]
  generalize (lg_sl ([.ref (q 0)]) ++ List.replicate (1 - (lg_sl ([.ref (q 0)])).length) Slot.unset).toArray = ls at hl ⊢
  have hl : lv_has ls 1 [(0, .ref (q 0))] := hl
  obtain ⟨H, hHe⟩ : ∃ H, s.heap = H := ⟨_, rfl⟩
  rw [hHe] at hP ⊢
  obtain ⟨locs, hLe⟩ : ∃ x : List Loc, ([] : List Loc) = x := ⟨_, rfl⟩
  rw [hLe]
  have hS : va_S (aT 30 q) s.heap H locs := by rw [← hHe, ← hLe]; exact va_S.rf
  refine lv_aload_n hx hb dX6_load_0 rfl (lv_at hl 0 rfl) ?_
  refine va_get (D := (dC, dI)) (ci := 6) (v := .ref (q 1)) (C := RX6) (T := TX6) (N := 6) hx hb hts inX6 hown hK hP 0 rfl rfl 0 (by decide) (hts _ fl_X6_12) (fun _ h9 => h9) rfl dX6_load_1 ?_
  refine xw_c (va_runV (As := []) (rest := []) ⟨hx, hb, hml, hown, hts⟩ (c_X2_openNext l dC dI cI cJ q σ  (by assumption) (by assumption)) (cwV 0 hts (gV ml_X6_105 im_X2_openNext se_X2_openNext in_X2 co_X2_openNext) rfl rfl rfl (by decide +kernel) ⟨Nat.le_of_ble_eq_true rfl, Nat.le_of_ble_eq_true rfl⟩) (preV hK hP (pos := 1) (ci := 2) rfl rfl) rfl rfl hl.1 rfl (lv_room (Nat.le_of_ble_eq_true rfl)) dX6_load_4 ⟨Nat.zero_le _, Nat.zero_le _⟩) hS (fun _ h => h) (fun H locs hP _ _ hS => ?_)
  have hP : va_P (dC, dI) vwCl (wT cI cJ q (fX2_openNext σ).2) H := hP
  refine W.eq (g2 := F0 m 7 ls [.int ((fX2_openNext σ).1)]) rfl ?_
  have hF : fX6_load σ = ((fX2_openNext σ).1, (fX2_openNext σ).2) := by rw [fX6_load]
  have hP9 : va_P (dC, dI) vwCl (wT cI cJ q (fX6_load σ).2) H := by rw [hF]; exact hP
  exact W.iret (v := (fX2_openNext σ).1) hx hb hr (fun t ht hW => ⟨(by rw [hF]), by rw [ht]; exact hP9, hS.F ht⟩) hS.2.2 dX6_load_7

def fX6_undo (σ : St) (p1 : Int32) : Int32 × St :=
  (if (fX2_canBeUndone σ p1) = 0 then ((-1), σ) else ((fX3_sizeOfLoad_T (fX2_setUndone σ p1 (σ.2.1 0)) p1) + (fX3_sizeOfLoad_F (fX2_setUndone σ p1 (σ.2.1 0)) p1), (fX2_setUndone σ p1 (σ.2.1 0))))
set_option maxHeartbeats 4000000 in
set_option maxRecDepth 100000 in
theorem c_X6_undo (l : Launch) (dC : Nat → ClassId) (dI : Nat → Nat → Nat) (cI cJ : ClassId) (q : Nat → Nat) (σ : St) (p1 : Int32) (hd : dT 30 q) (hI : IB σ) : Met l yX6_undo (.code yX6_undo cX6_undo 2 (some .int) :: tb) { frames := 2, cells := 0, slots := 0, locals := 44 } (Pu (dC, dI) (tyC cI cJ) (wT cI cJ q σ) [.ref (q 0), .int p1]) (xw_Q (some (.int (fX6_undo σ p1).1)) (dC, dI) (wT cI cJ q (fX6_undo σ p1).2) (aT 30 q)) 0 0 (aT 30 q) := by
  refine Met.ofW (cc := cX6_undo) (maxL := 2) (ret := (some .int)) (by decide) rfl ?_
  intro p e s m args below meth c s₁ B hml hv
  obtain ⟨rfl, hP, hK⟩ := hv
  have hx := B.exec
  have hb := B.bytes
  have hr := B.returns
  have hts0 := atoms_spec (ws := .code yX6_undo cX6_undo 2 (some .int) :: tb) B.pre
  have hts : ∀ w ∈ tb, w.before _ s = true := fun w hw => hts0 w (List.mem_cons_of_mem _ hw)
  have hown : s.vm.findClass RX6 = some m.cls := findClass_of_methodNamed B.named
  have hlocks := B.notSynchronized
  have hl := lv_entry ([.ref (q 0), .int p1]) (n := 2) (Nat.le_of_ble_eq_true rfl)
  rw [lg_entry_eq]
  generalize (lg_sl ([.ref (q 0), .int p1]) ++ List.replicate (2 - (lg_sl ([.ref (q 0), .int p1])).length) Slot.unset).toArray = ls at hl ⊢
  have hl : lv_has ls 2 [(0, .ref (q 0)), (1, .int p1)] := hl
  obtain ⟨H, hHe⟩ : ∃ H, s.heap = H := ⟨_, rfl⟩
  rw [hHe] at hP ⊢
  obtain ⟨locs, hLe⟩ : ∃ x : List Loc, ([] : List Loc) = x := ⟨_, rfl⟩
  rw [hLe]
  have hS : va_S (aT 30 q) s.heap H locs := by rw [← hHe, ← hLe]; exact va_S.rf
  refine lv_aload_n hx hb dX6_undo_0 rfl (lv_at hl 0 rfl) ?_
  refine va_get (D := (dC, dI)) (ci := 6) (v := .ref (q 1)) (C := RX6) (T := TX6) (N := 6) hx hb hts inX6 hown hK hP 0 rfl rfl 0 (by decide) (hts _ fl_X6_12) (fun _ h9 => h9) rfl dX6_undo_1 ?_
  refine lv_iload_n hx hb dX6_undo_4 rfl (lv_at hl 1 rfl) ?_
  refine xc_i (va_runV (As := [.int p1]) (rest := []) ⟨hx, hb, hml, hown, hts⟩ (c_X2_canBeUndone l dC dI cI cJ q σ p1 (by assumption)) (cwV 1 hts (gV ml_X6_108 im_X2_canBeUndone se_X2_canBeUndone in_X2 co_X2_canBeUndone) rfl rfl rfl (by decide +kernel) ⟨Nat.le_of_ble_eq_true rfl, Nat.le_of_ble_eq_true rfl⟩) (preV hK hP (pos := 1) (ci := 2) rfl rfl) rfl rfl hl.1 rfl (lv_room (Nat.le_of_ble_eq_true rfl)) dX6_undo_5 ⟨Nat.zero_le _, Nat.zero_le _⟩) ?_
  refine lv_if_ne (tgt := 13) hx hb dX6_undo_8 (by decide) (fun c_8 => ?_) (fun c_8 => ?_)
  · refine lv_aload_n hx hb dX6_undo_13 rfl (lv_at hl 0 rfl) ?_
    refine va_get (D := (dC, dI)) (ci := 6) (v := .ref (q 1)) (C := RX6) (T := TX6) (N := 6) hx hb hts inX6 hown hK hP 0 rfl rfl 0 (by decide) (hts _ fl_X6_12) (fun _ h9 => h9) rfl dX6_undo_14 ?_
    refine lv_iload_n hx hb dX6_undo_17 rfl (lv_at hl 1 rfl) ?_
    refine lv_aload_n hx hb dX6_undo_18 rfl (lv_at hl 0 rfl) ?_
    refine va_get (D := (dC, dI)) (ci := 6) (v := .int (σ.2.1 0)) (C := RX6) (T := TX6) (N := 6) hx hb hts inX6 hown hK hP 0 rfl rfl 5 (by decide) (hts _ fl_X6_48) (fun _ h9 => h9) rfl dX6_undo_19 ?_
    refine xw_c (va_runV (As := [.int p1, .int (σ.2.1 0)]) (rest := []) ⟨hx, hb, hml, hown, hts⟩ (c_X2_setUndone l dC dI cI cJ q σ p1 (σ.2.1 0) (by assumption) (cbu_in hI c_8)) (cwV 2 hts (gV ml_X6_111 im_X2_setUndone se_X2_setUndone in_X2 co_X2_setUndone) rfl rfl rfl (by decide +kernel) ⟨Nat.le_of_ble_eq_true rfl, Nat.le_of_ble_eq_true rfl⟩) (preV hK hP (pos := 1) (ci := 2) rfl rfl) rfl rfl hl.1 rfl (lv_room (Nat.le_of_ble_eq_true rfl)) dX6_undo_22 ⟨Nat.zero_le _, Nat.zero_le _⟩) hS (fun _ h => h) (fun H locs hP _ _ hS => ?_)
    have hP : va_P (dC, dI) vwCl (wT cI cJ q (fX2_setUndone σ p1 (σ.2.1 0))) H := hP
    refine W.eq (g2 := F0 m 25 ls []) rfl ?_
    refine lv_aload_n hx hb dX6_undo_25 rfl (lv_at hl 0 rfl) ?_
    refine va_get (D := (dC, dI)) (ci := 6) (v := .ref (q 13)) (C := RX6) (T := TX6) (N := 6) hx hb hts inX6 hown hK hP 0 rfl rfl 2 (by decide) (hts _ fl_X6_28) (fun _ h9 => h9) rfl dX6_undo_26 ?_
    refine lv_iload_n hx hb dX6_undo_29 rfl (lv_at hl 1 rfl) ?_
    refine xc_i (va_runV (As := [.int p1]) (rest := []) ⟨hx, hb, hml, hown, hts⟩ (c_X4_sizeOfLoad l dC dI cI cJ q (fX2_setUndone σ p1 (σ.2.1 0)) p1 (su_IB hI)) (cwV 1 hts (gV ml_X6_115 im_X4_sizeOfLoad se_X4_sizeOfLoad in_X4 co_X4_sizeOfLoad) rfl rfl rfl (by decide +kernel) ⟨Nat.le_of_ble_eq_true rfl, Nat.le_of_ble_eq_true rfl⟩) (preV hK hP (pos := 13) (ci := 4) rfl rfl) rfl rfl hl.1 rfl (lv_room (Nat.le_of_ble_eq_true rfl)) dX6_undo_30 ⟨Nat.zero_le _, Nat.zero_le _⟩) ?_
    refine lv_aload_n hx hb dX6_undo_33 rfl (lv_at hl 0 rfl) ?_
    refine va_get (D := (dC, dI)) (ci := 6) (v := .ref (q 21)) (C := RX6) (T := TX6) (N := 6) hx hb hts inX6 hown hK hP 0 rfl rfl 3 (by decide) (hts _ fl_X6_35) (fun _ h9 => h9) rfl dX6_undo_34 ?_
    refine lv_iload_n hx hb dX6_undo_37 rfl (lv_at hl 1 rfl) ?_
    refine xc_i (va_runV (As := [.int p1]) (rest := [.int (fX3_sizeOfLoad_T (fX2_setUndone σ p1 (σ.2.1 0)) p1)]) ⟨hx, hb, hml, hown, hts⟩ (c_X1_sizeOfLoad l dC dI cI cJ q (fX2_setUndone σ p1 (σ.2.1 0)) p1 (su_IB hI)) (cwV 1 hts (gV ml_X6_119 im_X1_sizeOfLoad se_X1_sizeOfLoad in_X1 co_X1_sizeOfLoad) rfl rfl rfl (by decide +kernel) ⟨Nat.le_of_ble_eq_true rfl, Nat.le_of_ble_eq_true rfl⟩) (preV hK hP (pos := 21) (ci := 1) rfl rfl) rfl rfl hl.1 rfl (lv_room (Nat.le_of_ble_eq_true rfl)) dX6_undo_38 ⟨Nat.zero_le _, Nat.zero_le _⟩) ?_
    refine lv_iadd hx hb dX6_undo_41 ?_
    have hF : fX6_undo σ p1 = ((fX3_sizeOfLoad_T (fX2_setUndone σ p1 (σ.2.1 0)) p1) + (fX3_sizeOfLoad_F (fX2_setUndone σ p1 (σ.2.1 0)) p1), (fX2_setUndone σ p1 (σ.2.1 0))) := by rw [fX6_undo, if_neg c_8]
    have hP9 : va_P (dC, dI) vwCl (wT cI cJ q (fX6_undo σ p1).2) H := by rw [hF]; exact hP
    exact W.iret (v := (fX3_sizeOfLoad_T (fX2_setUndone σ p1 (σ.2.1 0)) p1) + (fX3_sizeOfLoad_F (fX2_setUndone σ p1 (σ.2.1 0)) p1)) hx hb hr (fun t ht hW => ⟨(by rw [hF]), by rw [ht]; exact hP9, hS.F ht⟩) hS.2.2 dX6_undo_42
  · refine lv_iconst (v := (-1)) hx hb dX6_undo_11 (by decide) ?_
    have hF : fX6_undo σ p1 = ((-1), σ) := by rw [fX6_undo, if_pos c_8]
    have hP9 : va_P (dC, dI) vwCl (wT cI cJ q (fX6_undo σ p1).2) H := by rw [hF]; exact hP
    exact W.iret (v := (-1)) hx hb hr (fun t ht hW => ⟨(by rw [hF]), by rw [ht]; exact hP9, hS.F ht⟩) hS.2.2 dX6_undo_12
