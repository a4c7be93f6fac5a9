def flX7_compare_47 (σ : St) (p1 : Int32) (p2 : Int32) (p3 : Int32) (p4 : Int32) (p5 : Int32) : Nat → Nat → Int32 → Int32
  | 0, i, n => n
  | k + 1, i, n => (if (fX7_lives σ (nI i) p2 p4) = 0 then (if p5 = 0 then (if (fX7_lives σ (nI i) p2 p4) = 0 then flX7_compare_47 σ p1 p2 p3 p4 p5 k (i + 1) (n + (fX7_one σ 0)) else (if (fX7_lives σ (nI i) p3 p4) = 0 then flX7_compare_47 σ p1 p2 p3 p4 p5 k (i + 1) (n + (fX7_one σ 0)) else flX7_compare_47 σ p1 p2 p3 p4 p5 k (i + 1) (n + (fX7_one σ 1)))) else (if p5 = 1 then (if (fX7_lives σ (nI i) p3 p4) = 0 then flX7_compare_47 σ p1 p2 p3 p4 p5 k (i + 1) (n + (fX7_one σ 0)) else (if (fX7_lives σ (nI i) p2 p4) = 0 then flX7_compare_47 σ p1 p2 p3 p4 p5 k (i + 1) (n + (fX7_one σ 1)) else flX7_compare_47 σ p1 p2 p3 p4 p5 k (i + 1) (n + (fX7_one σ 0)))) else (if p5 = 2 then (if (fX7_lives σ (nI i) p2 p4) = 0 then flX7_compare_47 σ p1 p2 p3 p4 p5 k (i + 1) (n + (fX7_one σ 0)) else (if (fX7_lives σ (nI i) p3 p4) = 0 then flX7_compare_47 σ p1 p2 p3 p4 p5 k (i + 1) (n + (fX7_one σ 1)) else flX7_compare_47 σ p1 p2 p3 p4 p5 k (i + 1) (n + (fX7_one σ 0)))) else flX7_compare_47 σ p1 p2 p3 p4 p5 k (i + 1) (n + (fX7_one σ 0))))) else (if (fX7_lives σ (nI i) p3 p4) = 0 then (if p5 = 0 then (if (fX7_lives σ (nI i) p2 p4) = 0 then flX7_compare_47 σ p1 p2 p3 p4 p5 k (i + 1) (n + (fX7_one σ 0)) else (if (fX7_lives σ (nI i) p3 p4) = 0 then flX7_compare_47 σ p1 p2 p3 p4 p5 k (i + 1) (n + (fX7_one σ 0)) else flX7_compare_47 σ p1 p2 p3 p4 p5 k (i + 1) (n + (fX7_one σ 1)))) else (if p5 = 1 then (if (fX7_lives σ (nI i) p3 p4) = 0 then flX7_compare_47 σ p1 p2 p3 p4 p5 k (i + 1) (n + (fX7_one σ 0)) else (if (fX7_lives σ (nI i) p2 p4) = 0 then flX7_compare_47 σ p1 p2 p3 p4 p5 k (i + 1) (n + (fX7_one σ 1)) else flX7_compare_47 σ p1 p2 p3 p4 p5 k (i + 1) (n + (fX7_one σ 0)))) else (if p5 = 2 then (if (fX7_lives σ (nI i) p2 p4) = 0 then flX7_compare_47 σ p1 p2 p3 p4 p5 k (i + 1) (n + (fX7_one σ 0)) else (if (fX7_lives σ (nI i) p3 p4) = 0 then flX7_compare_47 σ p1 p2 p3 p4 p5 k (i + 1) (n + (fX7_one σ 1)) else flX7_compare_47 σ p1 p2 p3 p4 p5 k (i + 1) (n + (fX7_one σ 0)))) else flX7_compare_47 σ p1 p2 p3 p4 p5 k (i + 1) (n + (fX7_one σ 0))))) else (if p5 = 3 then (if (fX7_valueOf σ (nI i) p1 p2 p4) = (fX7_valueOf σ (nI i) p1 p3 p4) then (if p5 = 0 then (if (fX7_lives σ (nI i) p2 p4) = 0 then flX7_compare_47 σ p1 p2 p3 p4 p5 k (i + 1) (n + (fX7_one σ 0)) else (if (fX7_lives σ (nI i) p3 p4) = 0 then flX7_compare_47 σ p1 p2 p3 p4 p5 k (i + 1) (n + (fX7_one σ 0)) else flX7_compare_47 σ p1 p2 p3 p4 p5 k (i + 1) (n + (fX7_one σ 1)))) else (if p5 = 1 then (if (fX7_lives σ (nI i) p3 p4) = 0 then flX7_compare_47 σ p1 p2 p3 p4 p5 k (i + 1) (n + (fX7_one σ 0)) else (if (fX7_lives σ (nI i) p2 p4) = 0 then flX7_compare_47 σ p1 p2 p3 p4 p5 k (i + 1) (n + (fX7_one σ 1)) else flX7_compare_47 σ p1 p2 p3 p4 p5 k (i + 1) (n + (fX7_one σ 0)))) else (if p5 = 2 then (if (fX7_lives σ (nI i) p2 p4) = 0 then flX7_compare_47 σ p1 p2 p3 p4 p5 k (i + 1) (n + (fX7_one σ 0)) else (if (fX7_lives σ (nI i) p3 p4) = 0 then flX7_compare_47 σ p1 p2 p3 p4 p5 k (i + 1) (n + (fX7_one σ 1)) else flX7_compare_47 σ p1 p2 p3 p4 p5 k (i + 1) (n + (fX7_one σ 0)))) else flX7_compare_47 σ p1 p2 p3 p4 p5 k (i + 1) (n + (fX7_one σ 0))))) else (if p5 = 0 then (if (fX7_lives σ (nI i) p2 p4) = 0 then flX7_compare_47 σ p1 p2 p3 p4 p5 k (i + 1) (n + (fX7_one σ 0)) else (if (fX7_lives σ (nI i) p3 p4) = 0 then flX7_compare_47 σ p1 p2 p3 p4 p5 k (i + 1) (n + (fX7_one σ 0)) else flX7_compare_47 σ p1 p2 p3 p4 p5 k (i + 1) (n + (fX7_one σ 1)))) else (if p5 = 1 then (if (fX7_lives σ (nI i) p3 p4) = 0 then flX7_compare_47 σ p1 p2 p3 p4 p5 k (i + 1) (n + (fX7_one σ 0)) else (if (fX7_lives σ (nI i) p2 p4) = 0 then flX7_compare_47 σ p1 p2 p3 p4 p5 k (i + 1) (n + (fX7_one σ 1)) else flX7_compare_47 σ p1 p2 p3 p4 p5 k (i + 1) (n + (fX7_one σ 0)))) else (if p5 = 2 then (if (fX7_lives σ (nI i) p2 p4) = 0 then flX7_compare_47 σ p1 p2 p3 p4 p5 k (i + 1) (n + (fX7_one σ 0)) else (if (fX7_lives σ (nI i) p3 p4) = 0 then flX7_compare_47 σ p1 p2 p3 p4 p5 k (i + 1) (n + (fX7_one σ 1)) else flX7_compare_47 σ p1 p2 p3 p4 p5 k (i + 1) (n + (fX7_one σ 0)))) else flX7_compare_47 σ p1 p2 p3 p4 p5 k (i + 1) (n + (fX7_one σ 1)))))) else (if p5 = 0 then (if (fX7_lives σ (nI i) p2 p4) = 0 then flX7_compare_47 σ p1 p2 p3 p4 p5 k (i + 1) (n + (fX7_one σ 0)) else (if (fX7_lives σ (nI i) p3 p4) = 0 then flX7_compare_47 σ p1 p2 p3 p4 p5 k (i + 1) (n + (fX7_one σ 0)) else flX7_compare_47 σ p1 p2 p3 p4 p5 k (i + 1) (n + (fX7_one σ 1)))) else (if p5 = 1 then (if (fX7_lives σ (nI i) p3 p4) = 0 then flX7_compare_47 σ p1 p2 p3 p4 p5 k (i + 1) (n + (fX7_one σ 0)) else (if (fX7_lives σ (nI i) p2 p4) = 0 then flX7_compare_47 σ p1 p2 p3 p4 p5 k (i + 1) (n + (fX7_one σ 1)) else flX7_compare_47 σ p1 p2 p3 p4 p5 k (i + 1) (n + (fX7_one σ 0)))) else (if p5 = 2 then (if (fX7_lives σ (nI i) p2 p4) = 0 then flX7_compare_47 σ p1 p2 p3 p4 p5 k (i + 1) (n + (fX7_one σ 0)) else (if (fX7_lives σ (nI i) p3 p4) = 0 then flX7_compare_47 σ p1 p2 p3 p4 p5 k (i + 1) (n + (fX7_one σ 1)) else flX7_compare_47 σ p1 p2 p3 p4 p5 k (i + 1) (n + (fX7_one σ 0)))) else flX7_compare_47 σ p1 p2 p3 p4 p5 k (i + 1) (n + (fX7_one σ 0))))))))
def fX7_compare (σ : St) (p1 : Int32) (p2 : Int32) (p3 : Int32) (p4 : Int32) (p5 : Int32) : Int32 :=
  (if (fX7_isIn σ p1 0 3) = 0 then (-1) else (if (fX7_isIn σ p2 0 2000) = 0 then (-1) else (if (fX7_isIn σ p3 0 2000) = 0 then (-1) else (if (fX7_isIn σ p4 0 2000) = 0 then (-1) else (if (fX7_isIn σ p5 0 3) = 0 then (-1) else flX7_compare_47 σ p1 p2 p3 p4 p5 ((σ.2.1 1).toNatClampNeg) 0 0)))))
set_option maxHeartbeats 4000000 in
set_option maxRecDepth 100000 in
theorem c_X7_compare (l : Launch) (dC : Nat → ClassId) (dI : Nat → Nat → Nat) (cI cJ : ClassId) (q : Nat → Nat) (σ : St) (p1 : Int32) (p2 : Int32) (p3 : Int32) (p4 : Int32) (p5 : Int32) (hI : IB σ) : Met l yX7_compare (.code yX7_compare cX7_compare 11 (some .int) :: tb) { frames := 3, cells := 0, slots := 0, locals := 73 } (Pu (dC, dI) (tyC cI cJ) (wM cI cJ q σ) [.ref (q 0), .int p1, .int p2, .int p3, .int p4, .int p5]) (vp_Si (fun r => r = fX7_compare σ p1 p2 p3 p4 p5)) 0 0 (fun _ => False) := by
  refine Met.ofW (cc := cX7_compare) (maxL := 11) (ret := (some .int)) (by decide) rfl ?_
  intro p e s m args below meth c s₁ B hml hv
  obtain ⟨rfl, hP, hK⟩ := hv
  have hx := B.exec
  have hb := B.bytes
  have hr := B.returns
  have hts0 := atoms_spec (ws := .code yX7_compare cX7_compare 11 (some .int) :: tb) B.pre
  have hts : ∀ w ∈ tb, w.before _ s = true := fun w hw => hts0 w (List.mem_cons_of_mem _ hw)
  have hown : s.vm.findClass RX7 = some m.cls := findClass_of_methodNamed B.named
  have hlocks := B.notSynchronized
  have hl := lv_entry ([.ref (q 0), .int p1, .int p2, .int p3, .int p4, .int p5]) (n := 11) (Nat.le_of_ble_eq_true rfl)
  rw [lg_entry_eq]
  generalize (lg_sl ([.ref (q 0), .int p1, .int p2, .int p3, .int p4, .int p5]) ++ List.replicate (11 - (lg_sl ([.ref (q 0), .int p1, .int p2, .int p3, .int p4, .int p5])).length) Slot.unset).toArray = ls at hl ⊢
  have hl : lv_has ls 11 [(0, .ref (q 0)), (1, .int p1), (2, .int p2), (3, .int p3), (4, .int p4), (5, .int p5)] := hl
  refine lv_iload_n hx hb dX7_compare_0 rfl (lv_at hl 1 rfl) ?_
  refine xc_i (va_runS (As := [.int p1]) (rest := []) ⟨hx, hb, hml, hown, hts⟩ (c_X7_isMark l dC dI cI cJ q σ p1) (va_cwS 1 hts (gS ml_X7_119 st_X7_isMark in_X7 co_X7_isMark) rfl rfl rfl (by decide +kernel) ⟨Nat.le_of_ble_eq_true rfl, Nat.le_of_ble_eq_true rfl⟩) (preS hK hP) rfl rfl hl.1 rfl (lv_room (Nat.le_of_ble_eq_true rfl)) dX7_compare_1 ⟨Nat.zero_le _, Nat.zero_le _⟩) ?_
  refine lv_if_eq (tgt := 39) hx hb dX7_compare_4 (by decide) (fun c_4 => ?_) (fun c_4 => ?_)
  · refine lv_iconst (v := (-1)) hx hb dX7_compare_39 (by decide) ?_
    exact W.iret (v := (-1)) hx hb hr (fun t ht hW => ⟨_, rfl, (by rw [fX7_compare, if_pos c_4]), ht⟩) (fun _ h => absurd h List.not_mem_nil) dX7_compare_40
  · refine lv_iload_n hx hb dX7_compare_7 rfl (lv_at hl 2 rfl) ?_
    refine xc_i (va_runS (As := [.int p2]) (rest := []) ⟨hx, hb, hml, hown, hts⟩ (c_X7_isDay l dC dI cI cJ q σ p2) (va_cwS 1 hts (gS ml_X7_95 st_X7_isDay in_X7 co_X7_isDay) rfl rfl rfl (by decide +kernel) ⟨Nat.le_of_ble_eq_true rfl, Nat.le_of_ble_eq_true rfl⟩) (preS hK hP) rfl rfl hl.1 rfl (lv_room (Nat.le_of_ble_eq_true rfl)) dX7_compare_8 ⟨Nat.zero_le _, Nat.zero_le _⟩) ?_
    refine lv_if_eq (tgt := 39) hx hb dX7_compare_11 (by decide) (fun c_11 => ?_) (fun c_11 => ?_)
    · refine lv_iconst (v := (-1)) hx hb dX7_compare_39 (by decide) ?_
      exact W.iret (v := (-1)) hx hb hr (fun t ht hW => ⟨_, rfl, (by rw [fX7_compare, if_neg c_4, if_pos c_11]), ht⟩) (fun _ h => absurd h List.not_mem_nil) dX7_compare_40
    · refine lv_iload_n hx hb dX7_compare_14 rfl (lv_at hl 3 rfl) ?_
      refine xc_i (va_runS (As := [.int p3]) (rest := []) ⟨hx, hb, hml, hown, hts⟩ (c_X7_isDay l dC dI cI cJ q σ p3) (va_cwS 1 hts (gS ml_X7_95 st_X7_isDay in_X7 co_X7_isDay) rfl rfl rfl (by decide +kernel) ⟨Nat.le_of_ble_eq_true rfl, Nat.le_of_ble_eq_true rfl⟩) (preS hK hP) rfl rfl hl.1 rfl (lv_room (Nat.le_of_ble_eq_true rfl)) dX7_compare_15 ⟨Nat.zero_le _, Nat.zero_le _⟩) ?_
      refine lv_if_eq (tgt := 39) hx hb dX7_compare_18 (by decide) (fun c_18 => ?_) (fun c_18 => ?_)
      · refine lv_iconst (v := (-1)) hx hb dX7_compare_39 (by decide) ?_
        exact W.iret (v := (-1)) hx hb hr (fun t ht hW => ⟨_, rfl, (by rw [fX7_compare, if_neg c_4, if_neg c_11, if_pos c_18]), ht⟩) (fun _ h => absurd h List.not_mem_nil) dX7_compare_40
      · refine lv_iload hx hb dX7_compare_21 (lv_at hl 4 rfl) ?_
        refine xc_i (va_runS (As := [.int p4]) (rest := []) ⟨hx, hb, hml, hown, hts⟩ (c_X7_isDay l dC dI cI cJ q σ p4) (va_cwS 1 hts (gS ml_X7_95 st_X7_isDay in_X7 co_X7_isDay) rfl rfl rfl (by decide +kernel) ⟨Nat.le_of_ble_eq_true rfl, Nat.le_of_ble_eq_true rfl⟩) (preS hK hP) rfl rfl hl.1 rfl (lv_room (Nat.le_of_ble_eq_true rfl)) dX7_compare_23 ⟨Nat.zero_le _, Nat.zero_le _⟩) ?_
        refine lv_if_eq (tgt := 39) hx hb dX7_compare_26 (by decide) (fun c_26 => ?_) (fun c_26 => ?_)
        · refine lv_iconst (v := (-1)) hx hb dX7_compare_39 (by decide) ?_
          exact W.iret (v := (-1)) hx hb hr (fun t ht hW => ⟨_, rfl, (by rw [fX7_compare, if_neg c_4, if_neg c_11, if_neg c_18, if_pos c_26]), ht⟩) (fun _ h => absurd h List.not_mem_nil) dX7_compare_40
        · refine lv_iload hx hb dX7_compare_29 (lv_at hl 5 rfl) ?_
          refine lv_iconst (v := 0) hx hb dX7_compare_31 (by decide) ?_
          refine lv_iconst (v := 3) hx hb dX7_compare_32 (by decide) ?_
          refine xc_i (va_runS (As := [.int p5, .int 0, .int 3]) (rest := []) ⟨hx, hb, hml, hown, hts⟩ (c_X7_isIn l dC dI cI cJ q σ p5 0 3) (va_cwS 3 hts (gS ml_X7_73 st_X7_isIn in_X7 co_X7_isIn) rfl rfl rfl (by decide +kernel) ⟨Nat.le_of_ble_eq_true rfl, Nat.le_of_ble_eq_true rfl⟩) (preS hK hP) rfl rfl hl.1 rfl (lv_room (Nat.le_of_ble_eq_true rfl)) dX7_compare_33 ⟨Nat.zero_le _, Nat.zero_le _⟩) ?_
          refine lv_if_ne (tgt := 41) hx hb dX7_compare_36 (by decide) (fun c_36 => ?_) (fun c_36 => ?_)
          · refine lv_iconst (v := 0) hx hb dX7_compare_41 (by decide) ?_
            refine lv_istore (lv' := [(6, .int 0), (0, .ref (q 0)), (1, .int p1), (2, .int p2), (3, .int p3), (4, .int p4), (5, .int p5)]) hx hb dX7_compare_42 hl (by decide) rfl (fun ls hl => ?_)
            refine lv_iconst (v := 0) hx hb dX7_compare_44 (by decide) ?_
            refine lv_istore (lv' := [(7, .int 0), (6, .int 0), (0, .ref (q 0)), (1, .int p1), (2, .int p2), (3, .int p3), (4, .int p4), (5, .int p5)]) hx hb dX7_compare_45 hl (by decide) rfl (fun ls hl => ?_)
            have hz : szI (σ.2.1 1) 40 := hI.1
            have hz2 := hz.2
            have loop_47 : ∀ (k i : Nat) (n : Int32), i + k = (σ.2.1 1).toNatClampNeg → fX7_compare σ p1 p2 p3 p4 p5 = flX7_compare_47 σ p1 p2 p3 p4 p5 k i n → ∀ (ls : Array Slot), lv_has ls 11 [(0, .ref (q 0)), (1, .int p1), (2, .int p2), (3, .int p3), (4, .int p4), (5, .int p5), (7, .int (nI i)), (6, .int n)] → W p l e (headSpec (.code yX7_compare cX7_compare 11 (some .int) :: tb) { frames := 3, cells := 0, slots := 0, locals := 73 }).room s m (List.toArray [.ref (q 0), .int p1, .int p2, .int p3, .int p4, .int p5]) below meth c s.heap [] 0 0 (MQ below (vp_Si (fun r => r = fX7_compare σ p1 p2 p3 p4 p5)) (List.toArray [.ref (q 0), .int p1, .int p2, .int p3, .int p4, .int p5]) s 0 0 (fun _ => False)) (F0 m 47 ls []) := by
              intro k
              induction k with
              | zero =>
                intro i n hik hE ls hl
                refine lv_iload hx hb dX7_compare_47 (lv_at hl 6 rfl) ?_
                refine lv_aload_n hx hb dX7_compare_49 rfl (lv_at hl 0 rfl) ?_
                refine va_get (D := (dC, dI)) (ci := 7) (v := .int (σ.2.1 1)) (C := RX7) (T := TX7) (N := 26) hx hb hts inX7 hown hK hP 0 rfl rfl 1 (by decide) (hts _ fl_X7_77) (fun _ h9 => h9) rfl dX7_compare_50 ?_
                refine lv_icmp_ge (tgt := 211) hx hb dX7_compare_53 (by decide) (fun c_53 => ?_) (fun c_53 => ?_)
                · refine lv_iload hx hb dX7_compare_211 (lv_at hl 7 rfl) ?_
                  exact W.iret (v := n) hx hb hr (fun t ht hW => ⟨_, rfl, (by rw [hE, flX7_compare_47]), ht⟩) (fun _ h => absurd h List.not_mem_nil) dX7_compare_213
                · exact absurd (by rw [hz.1]; exact nI_le (by omega) (by omega)) c_53
              | succ k ih =>
                intro i n hik hE ls hl
                refine lv_iload hx hb dX7_compare_47 (lv_at hl 6 rfl) ?_
                refine lv_aload_n hx hb dX7_compare_49 rfl (lv_at hl 0 rfl) ?_
                refine va_get (D := (dC, dI)) (ci := 7) (v := .int (σ.2.1 1)) (C := RX7) (T := TX7) (N := 26) hx hb hts inX7 hown hK hP 0 rfl rfl 1 (by decide) (hts _ fl_X7_77) (fun _ h9 => h9) rfl dX7_compare_50 ?_
                refine lv_icmp_ge (tgt := 211) hx hb dX7_compare_53 (by decide) (fun c_53 => ?_) (fun c_53 => ?_)
                · exact absurd c_53 (by rw [hz.1]; exact nI_ge (by omega) (by omega))
                · refine lv_aload_n hx hb dX7_compare_56 rfl (lv_at hl 0 rfl) ?_
                  refine lv_iload hx hb dX7_compare_57 (lv_at hl 6 rfl) ?_
                  refine lv_iload_n hx hb dX7_compare_59 rfl (lv_at hl 2 rfl) ?_
                  refine lv_iload hx hb dX7_compare_60 (lv_at hl 4 rfl) ?_
                  refine xc_i (va_runV (As := [.int (nI i), .int p2, .int p4]) (rest := []) ⟨hx, hb, hml, hown, hts⟩ (c_X7_lives l dC dI cI cJ q σ (nI i) p2 p4 (vp_in_nI (by omega) (by decide))) (cwV 3 hts (gV ml_X7_88 im_X7_lives se_X7_lives in_X7 co_X7_lives) rfl rfl rfl (by decide +kernel) ⟨Nat.le_of_ble_eq_true rfl, Nat.le_of_ble_eq_true rfl⟩) (preV hK hP (pos := 0) (ci := 7) rfl rfl) rfl rfl hl.1 rfl (lv_room (Nat.le_of_ble_eq_true rfl)) dX7_compare_62 ⟨Nat.zero_le _, Nat.zero_le _⟩) ?_
                  refine lv_istore (lv' := [(8, .int (fX7_lives σ (nI i) p2 p4)), (0, .ref (q 0)), (1, .int p1), (2, .int p2), (3, .int p3), (4, .int p4), (5, .int p5), (7, .int (nI i)), (6, .int n)]) hx hb dX7_compare_65 hl (by decide) rfl (fun ls hl => ?_)
                  refine lv_aload_n hx hb dX7_compare_67 rfl (lv_at hl 1 rfl) ?_
                  refine lv_iload hx hb dX7_compare_68 (lv_at hl 7 rfl) ?_
                  refine lv_iload_n hx hb dX7_compare_70 rfl (lv_at hl 4 rfl) ?_
                  refine lv_iload hx hb dX7_compare_71 (lv_at hl 5 rfl) ?_
                  refine xc_i (va_runV (As := [.int (nI i), .int p3, .int p4]) (rest := []) ⟨hx, hb, hml, hown, hts⟩ (c_X7_lives l dC dI cI cJ q σ (nI i) p3 p4 (vp_in_nI (by omega) (by decide))) (cwV 3 hts (gV ml_X7_88 im_X7_lives se_X7_lives in_X7 co_X7_lives) rfl rfl rfl (by decide +kernel) ⟨Nat.le_of_ble_eq_true rfl, Nat.le_of_ble_eq_true rfl⟩) (preV hK hP (pos := 0) (ci := 7) rfl rfl) rfl rfl hl.1 rfl (lv_room (Nat.le_of_ble_eq_true rfl)) dX7_compare_73 ⟨Nat.zero_le _, Nat.zero_le _⟩) ?_
                  refine lv_istore (lv' := [(9, .int (fX7_lives σ (nI i) p3 p4)), (8, .int (fX7_lives σ (nI i) p2 p4)), (0, .ref (q 0)), (1, .int p1), (2, .int p2), (3, .int p3), (4, .int p4), (5, .int p5), (7, .int (nI i)), (6, .int n)]) hx hb dX7_compare_76 hl (by decide) rfl (fun ls hl => ?_)
                  refine lv_iload hx hb dX7_compare_78 (lv_at hl 1 rfl) ?_
                  refine lv_if_eq (tgt := 121) hx hb dX7_compare_80 (by decide) (fun c_80 => ?_) (fun c_80 => ?_)
                  · refine lv_iconst (v := 0) hx hb dX7_compare_121 (by decide) ?_
                    refine lv_istore (lv' := [(10, .int 0), (9, .int (fX7_lives σ (nI i) p3 p4)), (8, .int (fX7_lives σ (nI i) p2 p4)), (0, .ref (q 0)), (1, .int p1), (2, .int p2), (3, .int p3), (4, .int p4), (5, .int p5), (7, .int (nI i)), (6, .int n)]) hx hb dX7_compare_122 hl (by decide) rfl (fun ls hl => ?_)
                    refine lv_iload hx hb dX7_compare_124 (lv_at hl 10 rfl) ?_
                    refine lv_iload hx hb dX7_compare_126 (lv_at hl 8 rfl) ?_
                    refine lv_if_ne (tgt := 149) hx hb dX7_compare_128 (by decide) (fun c_128 => ?_) (fun c_128 => ?_)
                    · refine lv_iload hx hb dX7_compare_149 (lv_at hl 8 rfl) ?_
                      refine lv_iconst (v := 1) hx hb dX7_compare_151 (by decide) ?_
                      refine lv_icmp_ne (tgt := 173) hx hb dX7_compare_152 (by decide) (fun c_152 => ?_) (fun c_152 => ?_)
                      · refine lv_iload hx hb dX7_compare_173 (lv_at hl 8 rfl) ?_
                        refine lv_iconst (v := 2) hx hb dX7_compare_175 (by decide) ?_
                        refine lv_icmp_ne (tgt := 197) hx hb dX7_compare_176 (by decide) (fun c_176 => ?_) (fun c_176 => ?_)
                        · refine lv_iload hx hb dX7_compare_197 (lv_at hl 0 rfl) ?_
                          refine xc_i (va_runS (As := [.int 0]) (rest := [.int n]) ⟨hx, hb, hml, hown, hts⟩ (c_X7_one l dC dI cI cJ q σ 0) (va_cwS 1 hts (gS ml_X7_135 st_X7_one in_X7 co_X7_one) rfl rfl rfl (by decide +kernel) ⟨Nat.le_of_ble_eq_true rfl, Nat.le_of_ble_eq_true rfl⟩) (preS hK hP) rfl rfl hl.1 rfl (lv_room (Nat.le_of_ble_eq_true rfl)) dX7_compare_199 ⟨Nat.zero_le _, Nat.zero_le _⟩) ?_
                          refine lv_iadd hx hb dX7_compare_202 ?_
                          refine lv_istore (lv' := [(6, .int (n + (fX7_one σ 0))), (10, .int 0), (9, .int (fX7_lives σ (nI i) p3 p4)), (8, .int (fX7_lives σ (nI i) p2 p4)), (0, .ref (q 0)), (1, .int p1), (2, .int p2), (3, .int p3), (4, .int p4), (5, .int p5), (7, .int (nI i))]) hx hb dX7_compare_203 hl (by decide) rfl (fun ls hl => ?_)
                          refine lv_iinc (v := nI (i + 1)) (lv' := [(7, .int (nI (i + 1))), (6, .int (n + (fX7_one σ 0))), (10, .int 0), (9, .int (fX7_lives σ (nI i) p3 p4)), (8, .int (fX7_lives σ (nI i) p2 p4)), (0, .ref (q 0)), (1, .int p1), (2, .int p2), (3, .int p3), (4, .int p4), (5, .int p5)]) hx hb dX7_compare_205 hl (k := 10) rfl (nI_1 i) (by decide) rfl (fun ls hl => ?_)
                          refine lv_goto (tgt := 47) hx hb dX7_compare_208 (by decide) ?_
                          exact ih (i + 1) (n + (fX7_one σ 0)) (by omega) (by rw [hE, flX7_compare_47, if_pos c_80, if_neg c_128, if_neg c_152, if_neg c_176]) ls (lv_sub hl [5, 6, 7, 8, 9, 10, 0, 1] rfl)
                        · refine lv_iload hx hb dX7_compare_179 (lv_at hl 2 rfl) ?_
                          refine lv_if_eq (tgt := 193) hx hb dX7_compare_181 (by decide) (fun c_181 => ?_) (fun c_181 => ?_)
                          · refine lv_iconst (v := 0) hx hb dX7_compare_193 (by decide) ?_
                            refine lv_goto (tgt := 199) hx hb dX7_compare_194 (by decide) ?_
                            refine xc_i (va_runS (As := [.int 0]) (rest := [.int n]) ⟨hx, hb, hml, hown, hts⟩ (c_X7_one l dC dI cI cJ q σ 0) (va_cwS 1 hts (gS ml_X7_135 st_X7_one in_X7 co_X7_one) rfl rfl rfl (by decide +kernel) ⟨Nat.le_of_ble_eq_true rfl, Nat.le_of_ble_eq_true rfl⟩) (preS hK hP) rfl rfl hl.1 rfl (lv_room (Nat.le_of_ble_eq_true rfl)) dX7_compare_199 ⟨Nat.zero_le _, Nat.zero_le _⟩) ?_
                            refine lv_iadd hx hb dX7_compare_202 ?_
                            refine lv_istore (lv' := [(6, .int (n + (fX7_one σ 0))), (10, .int 0), (9, .int (fX7_lives σ (nI i) p3 p4)), (8, .int (fX7_lives σ (nI i) p2 p4)), (0, .ref (q 0)), (1, .int p1), (2, .int p2), (3, .int p3), (4, .int p4), (5, .int p5), (7, .int (nI i))]) hx hb dX7_compare_203 hl (by decide) rfl (fun ls hl => ?_)
                            refine lv_iinc (v := nI (i + 1)) (lv' := [(7, .int (nI (i + 1))), (6, .int (n + (fX7_one σ 0))), (10, .int 0), (9, .int (fX7_lives σ (nI i) p3 p4)), (8, .int (fX7_lives σ (nI i) p2 p4)), (0, .ref (q 0)), (1, .int p1), (2, .int p2), (3, .int p3), (4, .int p4), (5, .int p5)]) hx hb dX7_compare_205 hl (k := 10) rfl (nI_1 i) (by decide) rfl (fun ls hl => ?_)
                            refine lv_goto (tgt := 47) hx hb dX7_compare_208 (by decide) ?_
                            exact ih (i + 1) (n + (fX7_one σ 0)) (by omega) (by rw [hE, flX7_compare_47, if_pos c_80, if_neg c_128, if_neg c_152, if_pos c_176, if_pos c_181]) ls (lv_sub hl [5, 6, 7, 8, 9, 10, 0, 1] rfl)
                          · refine lv_iload hx hb dX7_compare_184 (lv_at hl 1 rfl) ?_
                            refine lv_if_ne (tgt := 193) hx hb dX7_compare_186 (by decide) (fun c_186 => ?_) (fun c_186 => ?_)
                            · refine lv_iconst (v := 0) hx hb dX7_compare_193 (by decide) ?_
                              refine lv_goto (tgt := 199) hx hb dX7_compare_194 (by decide) ?_
                              refine xc_i (va_runS (As := [.int 0]) (rest := [.int n]) ⟨hx, hb, hml, hown, hts⟩ (c_X7_one l dC dI cI cJ q σ 0) (va_cwS 1 hts (gS ml_X7_135 st_X7_one in_X7 co_X7_one) rfl rfl rfl (by decide +kernel) ⟨Nat.le_of_ble_eq_true rfl, Nat.le_of_ble_eq_true rfl⟩) (preS hK hP) rfl rfl hl.1 rfl (lv_room (Nat.le_of_ble_eq_true rfl)) dX7_compare_199 ⟨Nat.zero_le _, Nat.zero_le _⟩) ?_
                              refine lv_iadd hx hb dX7_compare_202 ?_
                              refine lv_istore (lv' := [(6, .int (n + (fX7_one σ 0))), (10, .int 0), (9, .int (fX7_lives σ (nI i) p3 p4)), (8, .int (fX7_lives σ (nI i) p2 p4)), (0, .ref (q 0)), (1, .int p1), (2, .int p2), (3, .int p3), (4, .int p4), (5, .int p5), (7, .int (nI i))]) hx hb dX7_compare_203 hl (by decide) rfl (fun ls hl => ?_)
                              refine lv_iinc (v := nI (i + 1)) (lv' := [(7, .int (nI (i + 1))), (6, .int (n + (fX7_one σ 0))), (10, .int 0), (9, .int (fX7_lives σ (nI i) p3 p4)), (8, .int (fX7_lives σ (nI i) p2 p4)), (0, .ref (q 0)), (1, .int p1), (2, .int p2), (3, .int p3), (4, .int p4), (5, .int p5)]) hx hb dX7_compare_205 hl (k := 10) rfl (nI_1 i) (by decide) rfl (fun ls hl => ?_)
                              refine lv_goto (tgt := 47) hx hb dX7_compare_208 (by decide) ?_
                              exact ih (i + 1) (n + (fX7_one σ 0)) (by omega) (by rw [hE, flX7_compare_47, if_pos c_80, if_neg c_128, if_neg c_152, if_pos c_176, if_neg c_181, if_neg c_186]) ls (lv_sub hl [5, 6, 7, 8, 9, 10, 0, 1] rfl)
                            · refine lv_iconst (v := 1) hx hb dX7_compare_189 (by decide) ?_
                              refine lv_goto (tgt := 199) hx hb dX7_compare_190 (by decide) ?_
                              refine xc_i (va_runS (As := [.int 1]) (rest := [.int n]) ⟨hx, hb, hml, hown, hts⟩ (c_X7_one l dC dI cI cJ q σ 1) (va_cwS 1 hts (gS ml_X7_135 st_X7_one in_X7 co_X7_one) rfl rfl rfl (by decide +kernel) ⟨Nat.le_of_ble_eq_true rfl, Nat.le_of_ble_eq_true rfl⟩) (preS hK hP) rfl rfl hl.1 rfl (lv_room (Nat.le_of_ble_eq_true rfl)) dX7_compare_199 ⟨Nat.zero_le _, Nat.zero_le _⟩) ?_
                              refine lv_iadd hx hb dX7_compare_202 ?_
                              refine lv_istore (lv' := [(6, .int (n + (fX7_one σ 1))), (10, .int 0), (9, .int (fX7_lives σ (nI i) p3 p4)), (8, .int (fX7_lives σ (nI i) p2 p4)), (0, .ref (q 0)), (1, .int p1), (2, .int p2), (3, .int p3), (4, .int p4), (5, .int p5), (7, .int (nI i))]) hx hb dX7_compare_203 hl (by decide) rfl (fun ls hl => ?_)
                              refine lv_iinc (v := nI (i + 1)) (lv' := [(7, .int (nI (i + 1))), (6, .int (n + (fX7_one σ 1))), (10, .int 0), (9, .int (fX7_lives σ (nI i) p3 p4)), (8, .int (fX7_lives σ (nI i) p2 p4)), (0, .ref (q 0)), (1, .int p1), (2, .int p2), (3, .int p3), (4, .int p4), (5, .int p5)]) hx hb dX7_compare_205 hl (k := 10) rfl (nI_1 i) (by decide) rfl (fun ls hl => ?_)
                              refine lv_goto (tgt := 47) hx hb dX7_compare_208 (by decide) ?_
                              exact ih (i + 1) (n + (fX7_one σ 1)) (by omega) (by rw [hE, flX7_compare_47, if_pos c_80, if_neg c_128, if_neg c_152, if_pos c_176, if_neg c_181, if_pos c_186]) ls (lv_sub hl [5, 6, 7, 8, 9, 10, 0, 1] rfl)
                      · refine lv_iload hx hb dX7_compare_155 (lv_at hl 1 rfl) ?_
                        refine lv_if_eq (tgt := 169) hx hb dX7_compare_157 (by decide) (fun c_157 => ?_) (fun c_157 => ?_)
                        · refine lv_iconst (v := 0) hx hb dX7_compare_169 (by decide) ?_
                          refine lv_goto (tgt := 199) hx hb dX7_compare_170 (by decide) ?_
                          refine xc_i (va_runS (As := [.int 0]) (rest := [.int n]) ⟨hx, hb, hml, hown, hts⟩ (c_X7_one l dC dI cI cJ q σ 0) (va_cwS 1 hts (gS ml_X7_135 st_X7_one in_X7 co_X7_one) rfl rfl rfl (by decide +kernel) ⟨Nat.le_of_ble_eq_true rfl, Nat.le_of_ble_eq_true rfl⟩) (preS hK hP) rfl rfl hl.1 rfl (lv_room (Nat.le_of_ble_eq_true rfl)) dX7_compare_199 ⟨Nat.zero_le _, Nat.zero_le _⟩) ?_
                          refine lv_iadd hx hb dX7_compare_202 ?_
                          refine lv_istore (lv' := [(6, .int (n + (fX7_one σ 0))), (10, .int 0), (9, .int (fX7_lives σ (nI i) p3 p4)), (8, .int (fX7_lives σ (nI i) p2 p4)), (0, .ref (q 0)), (1, .int p1), (2, .int p2), (3, .int p3), (4, .int p4), (5, .int p5), (7, .int (nI i))]) hx hb dX7_compare_203 hl (by decide) rfl (fun ls hl => ?_)
                          refine lv_iinc (v := nI (i + 1)) (lv' := [(7, .int (nI (i + 1))), (6, .int (n + (fX7_one σ 0))), (10, .int 0), (9, .int (fX7_lives σ (nI i) p3 p4)), (8, .int (fX7_lives σ (nI i) p2 p4)), (0, .ref (q 0)), (1, .int p1), (2, .int p2), (3, .int p3), (4, .int p4), (5, .int p5)]) hx hb dX7_compare_205 hl (k := 10) rfl (nI_1 i) (by decide) rfl (fun ls hl => ?_)
                          refine lv_goto (tgt := 47) hx hb dX7_compare_208 (by decide) ?_
                          exact ih (i + 1) (n + (fX7_one σ 0)) (by omega) (by rw [hE, flX7_compare_47, if_pos c_80, if_neg c_128, if_pos c_152, if_pos c_157]) ls (lv_sub hl [5, 6, 7, 8, 9, 10, 0, 1] rfl)
                        · refine lv_iload hx hb dX7_compare_160 (lv_at hl 2 rfl) ?_
                          refine lv_if_ne (tgt := 169) hx hb dX7_compare_162 (by decide) (fun c_162 => ?_) (fun c_162 => ?_)
                          · refine lv_iconst (v := 0) hx hb dX7_compare_169 (by decide) ?_
                            refine lv_goto (tgt := 199) hx hb dX7_compare_170 (by decide) ?_
                            refine xc_i (va_runS (As := [.int 0]) (rest := [.int n]) ⟨hx, hb, hml, hown, hts⟩ (c_X7_one l dC dI cI cJ q σ 0) (va_cwS 1 hts (gS ml_X7_135 st_X7_one in_X7 co_X7_one) rfl rfl rfl (by decide +kernel) ⟨Nat.le_of_ble_eq_true rfl, Nat.le_of_ble_eq_true rfl⟩) (preS hK hP) rfl rfl hl.1 rfl (lv_room (Nat.le_of_ble_eq_true rfl)) dX7_compare_199 ⟨Nat.zero_le _, Nat.zero_le _⟩) ?_
                            refine lv_iadd hx hb dX7_compare_202 ?_
                            refine lv_istore (lv' := [(6, .int (n + (fX7_one σ 0))), (10, .int 0), (9, .int (fX7_lives σ (nI i) p3 p4)), (8, .int (fX7_lives σ (nI i) p2 p4)), (0, .ref (q 0)), (1, .int p1), (2, .int p2), (3, .int p3), (4, .int p4), (5, .int p5), (7, .int (nI i))]) hx hb dX7_compare_203 hl (by decide) rfl (fun ls hl => ?_)
                            refine lv_iinc (v := nI (i + 1)) (lv' := [(7, .int (nI (i + 1))), (6, .int (n + (fX7_one σ 0))), (10, .int 0), (9, .int (fX7_lives σ (nI i) p3 p4)), (8, .int (fX7_lives σ (nI i) p2 p4)), (0, .ref (q 0)), (1, .int p1), (2, .int p2), (3, .int p3), (4, .int p4), (5, .int p5)]) hx hb dX7_compare_205 hl (k := 10) rfl (nI_1 i) (by decide) rfl (fun ls hl => ?_)
                            refine lv_goto (tgt := 47) hx hb dX7_compare_208 (by decide) ?_
                            exact ih (i + 1) (n + (fX7_one σ 0)) (by omega) (by rw [hE, flX7_compare_47, if_pos c_80, if_neg c_128, if_pos c_152, if_neg c_157, if_neg c_162]) ls (lv_sub hl [5, 6, 7, 8, 9, 10, 0, 1] rfl)
                          · refine lv_iconst (v := 1) hx hb dX7_compare_165 (by decide) ?_
                            refine lv_goto (tgt := 199) hx hb dX7_compare_166 (by decide) ?_
                            refine xc_i (va_runS (As := [.int 1]) (rest := [.int n]) ⟨hx, hb, hml, hown, hts⟩ (c_X7_one l dC dI cI cJ q σ 1) (va_cwS 1 hts (gS ml_X7_135 st_X7_one in_X7 co_X7_one) rfl rfl rfl (by decide +kernel) ⟨Nat.le_of_ble_eq_true rfl, Nat.le_of_ble_eq_true rfl⟩) (preS hK hP) rfl rfl hl.1 rfl (lv_room (Nat.le_of_ble_eq_true rfl)) dX7_compare_199 ⟨Nat.zero_le _, Nat.zero_le _⟩) ?_
                            refine lv_iadd hx hb dX7_compare_202 ?_
                            refine lv_istore (lv' := [(6, .int (n + (fX7_one σ 1))), (10, .int 0), (9, .int (fX7_lives σ (nI i) p3 p4)), (8, .int (fX7_lives σ (nI i) p2 p4)), (0, .ref (q 0)), (1, .int p1), (2, .int p2), (3, .int p3), (4, .int p4), (5, .int p5), (7, .int (nI i))]) hx hb dX7_compare_203 hl (by decide) rfl (fun ls hl => ?_)
                            refine lv_iinc (v := nI (i + 1)) (lv' := [(7, .int (nI (i + 1))), (6, .int (n + (fX7_one σ 1))), (10, .int 0), (9, .int (fX7_lives σ (nI i) p3 p4)), (8, .int (fX7_lives σ (nI i) p2 p4)), (0, .ref (q 0)), (1, .int p1), (2, .int p2), (3, .int p3), (4, .int p4), (5, .int p5)]) hx hb dX7_compare_205 hl (k := 10) rfl (nI_1 i) (by decide) rfl (fun ls hl => ?_)
                            refine lv_goto (tgt := 47) hx hb dX7_compare_208 (by decide) ?_
                            exact ih (i + 1) (n + (fX7_one σ 1)) (by omega) (by rw [hE, flX7_compare_47, if_pos c_80, if_neg c_128, if_pos c_152, if_neg c_157, if_pos c_162]) ls (lv_sub hl [5, 6, 7, 8, 9, 10, 0, 1] rfl)
                    · refine lv_iload hx hb dX7_compare_131 (lv_at hl 2 rfl) ?_
                      refine lv_if_eq (tgt := 145) hx hb dX7_compare_133 (by decide) (fun c_133 => ?_) (fun c_133 => ?_)
                      · refine lv_iconst (v := 0) hx hb dX7_compare_145 (by decide) ?_
                        refine lv_goto (tgt := 199) hx hb dX7_compare_146 (by decide) ?_
                        refine xc_i (va_runS (As := [.int 0]) (rest := [.int n]) ⟨hx, hb, hml, hown, hts⟩ (c_X7_one l dC dI cI cJ q σ 0) (va_cwS 1 hts (gS ml_X7_135 st_X7_one in_X7 co_X7_one) rfl rfl rfl (by decide +kernel) ⟨Nat.le_of_ble_eq_true rfl, Nat.le_of_ble_eq_true rfl⟩) (preS hK hP) rfl rfl hl.1 rfl (lv_room (Nat.le_of_ble_eq_true rfl)) dX7_compare_199 ⟨Nat.zero_le _, Nat.zero_le _⟩) ?_
                        refine lv_iadd hx hb dX7_compare_202 ?_
                        refine lv_istore (lv' := [(6, .int (n + (fX7_one σ 0))), (10, .int 0), (9, .int (fX7_lives σ (nI i) p3 p4)), (8, .int (fX7_lives σ (nI i) p2 p4)), (0, .ref (q 0)), (1, .int p1), (2, .int p2), (3, .int p3), (4, .int p4), (5, .int p5), (7, .int (nI i))]) hx hb dX7_compare_203 hl (by decide) rfl (fun ls hl => ?_)
                        refine lv_iinc (v := nI (i + 1)) (lv' := [(7, .int (nI (i + 1))), (6, .int (n + (fX7_one σ 0))), (10, .int 0), (9, .int (fX7_lives σ (nI i) p3 p4)), (8, .int (fX7_lives σ (nI i) p2 p4)), (0, .ref (q 0)), (1, .int p1), (2, .int p2), (3, .int p3), (4, .int p4), (5, .int p5)]) hx hb dX7_compare_205 hl (k := 10) rfl (nI_1 i) (by decide) rfl (fun ls hl => ?_)
                        refine lv_goto (tgt := 47) hx hb dX7_compare_208 (by decide) ?_
                        exact ih (i + 1) (n + (fX7_one σ 0)) (by omega) (by rw [hE, flX7_compare_47, if_pos c_80, if_pos c_128, if_pos c_133]) ls (lv_sub hl [5, 6, 7, 8, 9, 10, 0, 1] rfl)
                      · refine lv_iload hx hb dX7_compare_136 (lv_at hl 1 rfl) ?_
                        refine lv_if_eq (tgt := 145) hx hb dX7_compare_138 (by decide) (fun c_138 => ?_) (fun c_138 => ?_)
                        · refine lv_iconst (v := 0) hx hb dX7_compare_145 (by decide) ?_
                          refine lv_goto (tgt := 199) hx hb dX7_compare_146 (by decide) ?_
                          refine xc_i (va_runS (As := [.int 0]) (rest := [.int n]) ⟨hx, hb, hml, hown, hts⟩ (c_X7_one l dC dI cI cJ q σ 0) (va_cwS 1 hts (gS ml_X7_135 st_X7_one in_X7 co_X7_one) rfl rfl rfl (by decide +kernel) ⟨Nat.le_of_ble_eq_true rfl, Nat.le_of_ble_eq_true rfl⟩) (preS hK hP) rfl rfl hl.1 rfl (lv_room (Nat.le_of_ble_eq_true rfl)) dX7_compare_199 ⟨Nat.zero_le _, Nat.zero_le _⟩) ?_
                          refine lv_iadd hx hb dX7_compare_202 ?_
                          refine lv_istore (lv' := [(6, .int (n + (fX7_one σ 0))), (10, .int 0), (9, .int (fX7_lives σ (nI i) p3 p4)), (8, .int (fX7_lives σ (nI i) p2 p4)), (0, .ref (q 0)), (1, .int p1), (2, .int p2), (3, .int p3), (4, .int p4), (5, .int p5), (7, .int (nI i))]) hx hb dX7_compare_203 hl (by decide) rfl (fun ls hl => ?_)
                          refine lv_iinc (v := nI (i + 1)) (lv' := [(7, .int (nI (i + 1))), (6, .int (n + (fX7_one σ 0))), (10, .int 0), (9, .int (fX7_lives σ (nI i) p3 p4)), (8, .int (fX7_lives σ (nI i) p2 p4)), (0, .ref (q 0)), (1, .int p1), (2, .int p2), (3, .int p3), (4, .int p4), (5, .int p5)]) hx hb dX7_compare_205 hl (k := 10) rfl (nI_1 i) (by decide) rfl (fun ls hl => ?_)
                          refine lv_goto (tgt := 47) hx hb dX7_compare_208 (by decide) ?_
                          exact ih (i + 1) (n + (fX7_one σ 0)) (by omega) (by rw [hE, flX7_compare_47, if_pos c_80, if_pos c_128, if_neg c_133, if_pos c_138]) ls (lv_sub hl [5, 6, 7, 8, 9, 10, 0, 1] rfl)
                        · refine lv_iconst (v := 1) hx hb dX7_compare_141 (by decide) ?_
                          refine lv_goto (tgt := 199) hx hb dX7_compare_142 (by decide) ?_
                          refine xc_i (va_runS (As := [.int 1]) (rest := [.int n]) ⟨hx, hb, hml, hown, hts⟩ (c_X7_one l dC dI cI cJ q σ 1) (va_cwS 1 hts (gS ml_X7_135 st_X7_one in_X7 co_X7_one) rfl rfl rfl (by decide +kernel) ⟨Nat.le_of_ble_eq_true rfl, Nat.le_of_ble_eq_true rfl⟩) (preS hK hP) rfl rfl hl.1 rfl (lv_room (Nat.le_of_ble_eq_true rfl)) dX7_compare_199 ⟨Nat.zero_le _, Nat.zero_le _⟩) ?_
                          refine lv_iadd hx hb dX7_compare_202 ?_
                          refine lv_istore (lv' := [(6, .int (n + (fX7_one σ 1))), (10, .int 0), (9, .int (fX7_lives σ (nI i) p3 p4)), (8, .int (fX7_lives σ (nI i) p2 p4)), (0, .ref (q 0)), (1, .int p1), (2, .int p2), (3, .int p3), (4, .int p4), (5, .int p5), (7, .int (nI i))]) hx hb dX7_compare_203 hl (by decide) rfl (fun ls hl => ?_)
                          refine lv_iinc (v := nI (i + 1)) (lv' := [(7, .int (nI (i + 1))), (6, .int (n + (fX7_one σ 1))), (10, .int 0), (9, .int (fX7_lives σ (nI i) p3 p4)), (8, .int (fX7_lives σ (nI i) p2 p4)), (0, .ref (q 0)), (1, .int p1), (2, .int p2), (3, .int p3), (4, .int p4), (5, .int p5)]) hx hb dX7_compare_205 hl (k := 10) rfl (nI_1 i) (by decide) rfl (fun ls hl => ?_)
                          refine lv_goto (tgt := 47) hx hb dX7_compare_208 (by decide) ?_
                          exact ih (i + 1) (n + (fX7_one σ 1)) (by omega) (by rw [hE, flX7_compare_47, if_pos c_80, if_pos c_128, if_neg c_133, if_neg c_138]) ls (lv_sub hl [5, 6, 7, 8, 9, 10, 0, 1] rfl)
                  · refine lv_iload hx hb dX7_compare_83 (lv_at hl 0 rfl) ?_
                    refine lv_if_eq (tgt := 121) hx hb dX7_compare_85 (by decide) (fun c_85 => ?_) (fun c_85 => ?_)
                    · refine lv_iconst (v := 0) hx hb dX7_compare_121 (by decide) ?_
                      refine lv_istore (lv' := [(10, .int 0), (9, .int (fX7_lives σ (nI i) p3 p4)), (8, .int (fX7_lives σ (nI i) p2 p4)), (0, .ref (q 0)), (1, .int p1), (2, .int p2), (3, .int p3), (4, .int p4), (5, .int p5), (7, .int (nI i)), (6, .int n)]) hx hb dX7_compare_122 hl (by decide) rfl (fun ls hl => ?_)
                      refine lv_iload hx hb dX7_compare_124 (lv_at hl 10 rfl) ?_
                      refine lv_iload hx hb dX7_compare_126 (lv_at hl 8 rfl) ?_
                      refine lv_if_ne (tgt := 149) hx hb dX7_compare_128 (by decide) (fun c_128 => ?_) (fun c_128 => ?_)
                      · refine lv_iload hx hb dX7_compare_149 (lv_at hl 8 rfl) ?_
                        refine lv_iconst (v := 1) hx hb dX7_compare_151 (by decide) ?_
                        refine lv_icmp_ne (tgt := 173) hx hb dX7_compare_152 (by decide) (fun c_152 => ?_) (fun c_152 => ?_)
                        · refine lv_iload hx hb dX7_compare_173 (lv_at hl 8 rfl) ?_
                          refine lv_iconst (v := 2) hx hb dX7_compare_175 (by decide) ?_
                          refine lv_icmp_ne (tgt := 197) hx hb dX7_compare_176 (by decide) (fun c_176 => ?_) (fun c_176 => ?_)
                          · refine lv_iload hx hb dX7_compare_197 (lv_at hl 0 rfl) ?_
                            refine xc_i (va_runS (As := [.int 0]) (rest := [.int n]) ⟨hx, hb, hml, hown, hts⟩ (c_X7_one l dC dI cI cJ q σ 0) (va_cwS 1 hts (gS ml_X7_135 st_X7_one in_X7 co_X7_one) rfl rfl rfl (by decide +kernel) ⟨Nat.le_of_ble_eq_true rfl, Nat.le_of_ble_eq_true rfl⟩) (preS hK hP) rfl rfl hl.1 rfl (lv_room (Nat.le_of_ble_eq_true rfl)) dX7_compare_199 ⟨Nat.zero_le _, Nat.zero_le _⟩) ?_
                            refine lv_iadd hx hb dX7_compare_202 ?_
                            refine lv_istore (lv' := [(6, .int (n + (fX7_one σ 0))), (10, .int 0), (9, .int (fX7_lives σ (nI i) p3 p4)), (8, .int (fX7_lives σ (nI i) p2 p4)), (0, .ref (q 0)), (1, .int p1), (2, .int p2), (3, .int p3), (4, .int p4), (5, .int p5), (7, .int (nI i))]) hx hb dX7_compare_203 hl (by decide) rfl (fun ls hl => ?_)
                            refine lv_iinc (v := nI (i + 1)) (lv' := [(7, .int (nI (i + 1))), (6, .int (n + (fX7_one σ 0))), (10, .int 0), (9, .int (fX7_lives σ (nI i) p3 p4)), (8, .int (fX7_lives σ (nI i) p2 p4)), (0, .ref (q 0)), (1, .int p1), (2, .int p2), (3, .int p3), (4, .int p4), (5, .int p5)]) hx hb dX7_compare_205 hl (k := 10) rfl (nI_1 i) (by decide) rfl (fun ls hl => ?_)
                            refine lv_goto (tgt := 47) hx hb dX7_compare_208 (by decide) ?_
                            exact ih (i + 1) (n + (fX7_one σ 0)) (by omega) (by rw [hE, flX7_compare_47, if_neg c_80, if_pos c_85, if_neg c_128, if_neg c_152, if_neg c_176]) ls (lv_sub hl [5, 6, 7, 8, 9, 10, 0, 1] rfl)
                          · refine lv_iload hx hb dX7_compare_179 (lv_at hl 2 rfl) ?_
                            refine lv_if_eq (tgt := 193) hx hb dX7_compare_181 (by decide) (fun c_181 => ?_) (fun c_181 => ?_)
                            · refine lv_iconst (v := 0) hx hb dX7_compare_193 (by decide) ?_
                              refine lv_goto (tgt := 199) hx hb dX7_compare_194 (by decide) ?_
                              refine xc_i (va_runS (As := [.int 0]) (rest := [.int n]) ⟨hx, hb, hml, hown, hts⟩ (c_X7_one l dC dI cI cJ q σ 0) (va_cwS 1 hts (gS ml_X7_135 st_X7_one in_X7 co_X7_one) rfl rfl rfl (by decide +kernel) ⟨Nat.le_of_ble_eq_true rfl, Nat.le_of_ble_eq_true rfl⟩) (preS hK hP) rfl rfl hl.1 rfl (lv_room (Nat.le_of_ble_eq_true rfl)) dX7_compare_199 ⟨Nat.zero_le _, Nat.zero_le _⟩) ?_
                              refine lv_iadd hx hb dX7_compare_202 ?_
                              refine lv_istore (lv' := [(6, .int (n + (fX7_one σ 0))), (10, .int 0), (9, .int (fX7_lives σ (nI i) p3 p4)), (8, .int (fX7_lives σ (nI i) p2 p4)), (0, .ref (q 0)), (1, .int p1), (2, .int p2), (3, .int p3), (4, .int p4), (5, .int p5), (7, .int (nI i))]) hx hb dX7_compare_203 hl (by decide) rfl (fun ls hl => ?_)
                              refine lv_iinc (v := nI (i + 1)) (lv' := [(7, .int (nI (i + 1))), (6, .int (n + (fX7_one σ 0))), (10, .int 0), (9, .int (fX7_lives σ (nI i) p3 p4)), (8, .int (fX7_lives σ (nI i) p2 p4)), (0, .ref (q 0)), (1, .int p1), (2, .int p2), (3, .int p3), (4, .int p4), (5, .int p5)]) hx hb dX7_compare_205 hl (k := 10) rfl (nI_1 i) (by decide) rfl (fun ls hl => ?_)
                              refine lv_goto (tgt := 47) hx hb dX7_compare_208 (by decide) ?_
                              exact ih (i + 1) (n + (fX7_one σ 0)) (by omega) (by rw [hE, flX7_compare_47, if_neg c_80, if_pos c_85, if_neg c_128, if_neg c_152, if_pos c_176, if_pos c_181]) ls (lv_sub hl [5, 6, 7, 8, 9, 10, 0, 1] rfl)
                            · refine lv_iload hx hb dX7_compare_184 (lv_at hl 1 rfl) ?_
                              refine lv_if_ne (tgt := 193) hx hb dX7_compare_186 (by decide) (fun c_186 => ?_) (fun c_186 => ?_)
                              · refine lv_iconst (v := 0) hx hb dX7_compare_193 (by decide) ?_
                                refine lv_goto (tgt := 199) hx hb dX7_compare_194 (by decide) ?_
                                refine xc_i (va_runS (As := [.int 0]) (rest := [.int n]) ⟨hx, hb, hml, hown, hts⟩ (c_X7_one l dC dI cI cJ q σ 0) (va_cwS 1 hts (gS ml_X7_135 st_X7_one in_X7 co_X7_one) rfl rfl rfl (by decide +kernel) ⟨Nat.le_of_ble_eq_true rfl, Nat.le_of_ble_eq_true rfl⟩) (preS hK hP) rfl rfl hl.1 rfl (lv_room (Nat.le_of_ble_eq_true rfl)) dX7_compare_199 ⟨Nat.zero_le _, Nat.zero_le _⟩) ?_
                                refine lv_iadd hx hb dX7_compare_202 ?_
                                refine lv_istore (lv' := [(6, .int (n + (fX7_one σ 0))), (10, .int 0), (9, .int (fX7_lives σ (nI i) p3 p4)), (8, .int (fX7_lives σ (nI i) p2 p4)), (0, .ref (q 0)), (1, .int p1), (2, .int p2), (3, .int p3), (4, .int p4), (5, .int p5), (7, .int (nI i))]) hx hb dX7_compare_203 hl (by decide) rfl (fun ls hl => ?_)
                                refine lv_iinc (v := nI (i + 1)) (lv' := [(7, .int (nI (i + 1))), (6, .int (n + (fX7_one σ 0))), (10, .int 0), (9, .int (fX7_lives σ (nI i) p3 p4)), (8, .int (fX7_lives σ (nI i) p2 p4)), (0, .ref (q 0)), (1, .int p1), (2, .int p2), (3, .int p3), (4, .int p4), (5, .int p5)]) hx hb dX7_compare_205 hl (k := 10) rfl (nI_1 i) (by decide) rfl (fun ls hl => ?_)
                                refine lv_goto (tgt := 47) hx hb dX7_compare_208 (by decide) ?_
                                exact ih (i + 1) (n + (fX7_one σ 0)) (by omega) (by rw [hE, flX7_compare_47, if_neg c_80, if_pos c_85, if_neg c_128, if_neg c_152, if_pos c_176, if_neg c_181, if_neg c_186]) ls (lv_sub hl [5, 6, 7, 8, 9, 10, 0, 1] rfl)
                              · refine lv_iconst (v := 1) hx hb dX7_compare_189 (by decide) ?_
                                refine lv_goto (tgt := 199) hx hb dX7_compare_190 (by decide) ?_
                                refine xc_i (va_runS (As := [.int 1]) (rest := [.int n]) ⟨hx, hb, hml, hown, hts⟩ (c_X7_one l dC dI cI cJ q σ 1) (va_cwS 1 hts (gS ml_X7_135 st_X7_one in_X7 co_X7_one) rfl rfl rfl (by decide +kernel) ⟨Nat.le_of_ble_eq_true rfl, Nat.le_of_ble_eq_true rfl⟩) (preS hK hP) rfl rfl hl.1 rfl (lv_room (Nat.le_of_ble_eq_true rfl)) dX7_compare_199 ⟨Nat.zero_le _, Nat.zero_le _⟩) ?_
                                refine lv_iadd hx hb dX7_compare_202 ?_
                                refine lv_istore (lv' := [(6, .int (n + (fX7_one σ 1))), (10, .int 0), (9, .int (fX7_lives σ (nI i) p3 p4)), (8, .int (fX7_lives σ (nI i) p2 p4)), (0, .ref (q 0)), (1, .int p1), (2, .int p2), (3, .int p3), (4, .int p4), (5, .int p5), (7, .int (nI i))]) hx hb dX7_compare_203 hl (by decide) rfl (fun ls hl => ?_)
                                refine lv_iinc (v := nI (i + 1)) (lv' := [(7, .int (nI (i + 1))), (6, .int (n + (fX7_one σ 1))), (10, .int 0), (9, .int (fX7_lives σ (nI i) p3 p4)), (8, .int (fX7_lives σ (nI i) p2 p4)), (0, .ref (q 0)), (1, .int p1), (2, .int p2), (3, .int p3), (4, .int p4), (5, .int p5)]) hx hb dX7_compare_205 hl (k := 10) rfl (nI_1 i) (by decide) rfl (fun ls hl => ?_)
                                refine lv_goto (tgt := 47) hx hb dX7_compare_208 (by decide) ?_
                                exact ih (i + 1) (n + (fX7_one σ 1)) (by omega) (by rw [hE, flX7_compare_47, if_neg c_80, if_pos c_85, if_neg c_128, if_neg c_152, if_pos c_176, if_neg c_181, if_pos c_186]) ls (lv_sub hl [5, 6, 7, 8, 9, 10, 0, 1] rfl)
                        · refine lv_iload hx hb dX7_compare_155 (lv_at hl 1 rfl) ?_
                          refine lv_if_eq (tgt := 169) hx hb dX7_compare_157 (by decide) (fun c_157 => ?_) (fun c_157 => ?_)
                          · refine lv_iconst (v := 0) hx hb dX7_compare_169 (by decide) ?_
                            refine lv_goto (tgt := 199) hx hb dX7_compare_170 (by decide) ?_
                            refine xc_i (va_runS (As := [.int 0]) (rest := [.int n]) ⟨hx, hb, hml, hown, hts⟩ (c_X7_one l dC dI cI cJ q σ 0) (va_cwS 1 hts (gS ml_X7_135 st_X7_one in_X7 co_X7_one) rfl rfl rfl (by decide +kernel) ⟨Nat.le_of_ble_eq_true rfl, Nat.le_of_ble_eq_true rfl⟩) (preS hK hP) rfl rfl hl.1 rfl (lv_room (Nat.le_of_ble_eq_true rfl)) dX7_compare_199 ⟨Nat.zero_le _, Nat.zero_le _⟩) ?_
                            refine lv_iadd hx hb dX7_compare_202 ?_
                            refine lv_istore (lv' := [(6, .int (n + (fX7_one σ 0))), (10, .int 0), (9, .int (fX7_lives σ (nI i) p3 p4)), (8, .int (fX7_lives σ (nI i) p2 p4)), (0, .ref (q 0)), (1, .int p1), (2, .int p2), (3, .int p3), (4, .int p4), (5, .int p5), (7, .int (nI i))]) hx hb dX7_compare_203 hl (by decide) rfl (fun ls hl => ?_)
                            refine lv_iinc (v := nI (i + 1)) (lv' := [(7, .int (nI (i + 1))), (6, .int (n + (fX7_one σ 0))), (10, .int 0), (9, .int (fX7_lives σ (nI i) p3 p4)), (8, .int (fX7_lives σ (nI i) p2 p4)), (0, .ref (q 0)), (1, .int p1), (2, .int p2), (3, .int p3), (4, .int p4), (5, .int p5)]) hx hb dX7_compare_205 hl (k := 10) rfl (nI_1 i) (by decide) rfl (fun ls hl => ?_)
                            refine lv_goto (tgt := 47) hx hb dX7_compare_208 (by decide) ?_
                            exact ih (i + 1) (n + (fX7_one σ 0)) (by omega) (by rw [hE, flX7_compare_47, if_neg c_80, if_pos c_85, if_neg c_128, if_pos c_152, if_pos c_157]) ls (lv_sub hl [5, 6, 7, 8, 9, 10, 0, 1] rfl)
                          · refine lv_iload hx hb dX7_compare_160 (lv_at hl 2 rfl) ?_
                            refine lv_if_ne (tgt := 169) hx hb dX7_compare_162 (by decide) (fun c_162 => ?_) (fun c_162 => ?_)
                            · refine lv_iconst (v := 0) hx hb dX7_compare_169 (by decide) ?_
                              refine lv_goto (tgt := 199) hx hb dX7_compare_170 (by decide) ?_
                              refine xc_i (va_runS (As := [.int 0]) (rest := [.int n]) ⟨hx, hb, hml, hown, hts⟩ (c_X7_one l dC dI cI cJ q σ 0) (va_cwS 1 hts (gS ml_X7_135 st_X7_one in_X7 co_X7_one) rfl rfl rfl (by decide +kernel) ⟨Nat.le_of_ble_eq_true rfl, Nat.le_of_ble_eq_true rfl⟩) (preS hK hP) rfl rfl hl.1 rfl (lv_room (Nat.le_of_ble_eq_true rfl)) dX7_compare_199 ⟨Nat.zero_le _, Nat.zero_le _⟩) ?_
                              refine lv_iadd hx hb dX7_compare_202 ?_
                              refine lv_istore (lv' := [(6, .int (n + (fX7_one σ 0))), (10, .int 0), (9, .int (fX7_lives σ (nI i) p3 p4)), (8, .int (fX7_lives σ (nI i) p2 p4)), (0, .ref (q 0)), (1, .int p1), (2, .int p2), (3, .int p3), (4, .int p4), (5, .int p5), (7, .int (nI i))]) hx hb dX7_compare_203 hl (by decide) rfl (fun ls hl => ?_)
                              refine lv_iinc (v := nI (i + 1)) (lv' := [(7, .int (nI (i + 1))), (6, .int (n + (fX7_one σ 0))), (10, .int 0), (9, .int (fX7_lives σ (nI i) p3 p4)), (8, .int (fX7_lives σ (nI i) p2 p4)), (0, .ref (q 0)), (1, .int p1), (2, .int p2), (3, .int p3), (4, .int p4), (5, .int p5)]) hx hb dX7_compare_205 hl (k := 10) rfl (nI_1 i) (by decide) rfl (fun ls hl => ?_)
                              refine lv_goto (tgt := 47) hx hb dX7_compare_208 (by decide) ?_
                              exact ih (i + 1) (n + (fX7_one σ 0)) (by omega) (by rw [hE, flX7_compare_47, if_neg c_80, if_pos c_85, if_neg c_128, if_pos c_152, if_neg c_157, if_neg c_162]) ls (lv_sub hl [5, 6, 7, 8, 9, 10, 0, 1] rfl)
                            · refine lv_iconst (v := 1) hx hb dX7_compare_165 (by decide) ?_
                              refine lv_goto (tgt := 199) hx hb dX7_compare_166 (by decide) ?_
                              refine xc_i (va_runS (As := [.int 1]) (rest := [.int n]) ⟨hx, hb, hml, hown, hts⟩ (c_X7_one l dC dI cI cJ q σ 1) (va_cwS 1 hts (gS ml_X7_135 st_X7_one in_X7 co_X7_one) rfl rfl rfl (by decide +kernel) ⟨Nat.le_of_ble_eq_true rfl, Nat.le_of_ble_eq_true rfl⟩) (preS hK hP) rfl rfl hl.1 rfl (lv_room (Nat.le_of_ble_eq_true rfl)) dX7_compare_199 ⟨Nat.zero_le _, Nat.zero_le _⟩) ?_
                              refine lv_iadd hx hb dX7_compare_202 ?_
                              refine lv_istore (lv' := [(6, .int (n + (fX7_one σ 1))), (10, .int 0), (9, .int (fX7_lives σ (nI i) p3 p4)), (8, .int (fX7_lives σ (nI i) p2 p4)), (0, .ref (q 0)), (1, .int p1), (2, .int p2), (3, .int p3), (4, .int p4), (5, .int p5), (7, .int (nI i))]) hx hb dX7_compare_203 hl (by decide) rfl (fun ls hl => ?_)
                              refine lv_iinc (v := nI (i + 1)) (lv' := [(7, .int (nI (i + 1))), (6, .int (n + (fX7_one σ 1))), (10, .int 0), (9, .int (fX7_lives σ (nI i) p3 p4)), (8, .int (fX7_lives σ (nI i) p2 p4)), (0, .ref (q 0)), (1, .int p1), (2, .int p2), (3, .int p3), (4, .int p4), (5, .int p5)]) hx hb dX7_compare_205 hl (k := 10) rfl (nI_1 i) (by decide) rfl (fun ls hl => ?_)
                              refine lv_goto (tgt := 47) hx hb dX7_compare_208 (by decide) ?_
                              exact ih (i + 1) (n + (fX7_one σ 1)) (by omega) (by rw [hE, flX7_compare_47, if_neg c_80, if_pos c_85, if_neg c_128, if_pos c_152, if_neg c_157, if_pos c_162]) ls (lv_sub hl [5, 6, 7, 8, 9, 10, 0, 1] rfl)
                      · refine lv_iload hx hb dX7_compare_131 (lv_at hl 2 rfl) ?_
                        refine lv_if_eq (tgt := 145) hx hb dX7_compare_133 (by decide) (fun c_133 => ?_) (fun c_133 => ?_)
                        · refine lv_iconst (v := 0) hx hb dX7_compare_145 (by decide) ?_
                          refine lv_goto (tgt := 199) hx hb dX7_compare_146 (by decide) ?_
                          refine xc_i (va_runS (As := [.int 0]) (rest := [.int n]) ⟨hx, hb, hml, hown, hts⟩ (c_X7_one l dC dI cI cJ q σ 0) (va_cwS 1 hts (gS ml_X7_135 st_X7_one in_X7 co_X7_one) rfl rfl rfl (by decide +kernel) ⟨Nat.le_of_ble_eq_true rfl, Nat.le_of_ble_eq_true rfl⟩) (preS hK hP) rfl rfl hl.1 rfl (lv_room (Nat.le_of_ble_eq_true rfl)) dX7_compare_199 ⟨Nat.zero_le _, Nat.zero_le _⟩) ?_
                          refine lv_iadd hx hb dX7_compare_202 ?_
                          refine lv_istore (lv' := [(6, .int (n + (fX7_one σ 0))), (10, .int 0), (9, .int (fX7_lives σ (nI i) p3 p4)), (8, .int (fX7_lives σ (nI i) p2 p4)), (0, .ref (q 0)), (1, .int p1), (2, .int p2), (3, .int p3), (4, .int p4), (5, .int p5), (7, .int (nI i))]) hx hb dX7_compare_203 hl (by decide) rfl (fun ls hl => ?_)
                          refine lv_iinc (v := nI (i + 1)) (lv' := [(7, .int (nI (i + 1))), (6, .int (n + (fX7_one σ 0))), (10, .int 0), (9, .int (fX7_lives σ (nI i) p3 p4)), (8, .int (fX7_lives σ (nI i) p2 p4)), (0, .ref (q 0)), (1, .int p1), (2, .int p2), (3, .int p3), (4, .int p4), (5, .int p5)]) hx hb dX7_compare_205 hl (k := 10) rfl (nI_1 i) (by decide) rfl (fun ls hl => ?_)
                          refine lv_goto (tgt := 47) hx hb dX7_compare_208 (by decide) ?_
                          exact ih (i + 1) (n + (fX7_one σ 0)) (by omega) (by rw [hE, flX7_compare_47, if_neg c_80, if_pos c_85, if_pos c_128, if_pos c_133]) ls (lv_sub hl [5, 6, 7, 8, 9, 10, 0, 1] rfl)
                        · refine lv_iload hx hb dX7_compare_136 (lv_at hl 1 rfl) ?_
                          refine lv_if_eq (tgt := 145) hx hb dX7_compare_138 (by decide) (fun c_138 => ?_) (fun c_138 => ?_)
                          · refine lv_iconst (v := 0) hx hb dX7_compare_145 (by decide) ?_
                            refine lv_goto (tgt := 199) hx hb dX7_compare_146 (by decide) ?_
                            refine xc_i (va_runS (As := [.int 0]) (rest := [.int n]) ⟨hx, hb, hml, hown, hts⟩ (c_X7_one l dC dI cI cJ q σ 0) (va_cwS 1 hts (gS ml_X7_135 st_X7_one in_X7 co_X7_one) rfl rfl rfl (by decide +kernel) ⟨Nat.le_of_ble_eq_true rfl, Nat.le_of_ble_eq_true rfl⟩) (preS hK hP) rfl rfl hl.1 rfl (lv_room (Nat.le_of_ble_eq_true rfl)) dX7_compare_199 ⟨Nat.zero_le _, Nat.zero_le _⟩) ?_
                            refine lv_iadd hx hb dX7_compare_202 ?_
                            refine lv_istore (lv' := [(6, .int (n + (fX7_one σ 0))), (10, .int 0), (9, .int (fX7_lives σ (nI i) p3 p4)), (8, .int (fX7_lives σ (nI i) p2 p4)), (0, .ref (q 0)), (1, .int p1), (2, .int p2), (3, .int p3), (4, .int p4), (5, .int p5), (7, .int (nI i))]) hx hb dX7_compare_203 hl (by decide) rfl (fun ls hl => ?_)
                            refine lv_iinc (v := nI (i + 1)) (lv' := [(7, .int (nI (i + 1))), (6, .int (n + (fX7_one σ 0))), (10, .int 0), (9, .int (fX7_lives σ (nI i) p3 p4)), (8, .int (fX7_lives σ (nI i) p2 p4)), (0, .ref (q 0)), (1, .int p1), (2, .int p2), (3, .int p3), (4, .int p4), (5, .int p5)]) hx hb dX7_compare_205 hl (k := 10) rfl (nI_1 i) (by decide) rfl (fun ls hl => ?_)
                            refine lv_goto (tgt := 47) hx hb dX7_compare_208 (by decide) ?_
                            exact ih (i + 1) (n + (fX7_one σ 0)) (by omega) (by rw [hE, flX7_compare_47, if_neg c_80, if_pos c_85, if_pos c_128, if_neg c_133, if_pos c_138]) ls (lv_sub hl [5, 6, 7, 8, 9, 10, 0, 1] rfl)
                          · refine lv_iconst (v := 1) hx hb dX7_compare_141 (by decide) ?_
                            refine lv_goto (tgt := 199) hx hb dX7_compare_142 (by decide) ?_
                            refine xc_i (va_runS (As := [.int 1]) (rest := [.int n]) ⟨hx, hb, hml, hown, hts⟩ (c_X7_one l dC dI cI cJ q σ 1) (va_cwS 1 hts (gS ml_X7_135 st_X7_one in_X7 co_X7_one) rfl rfl rfl (by decide +kernel) ⟨Nat.le_of_ble_eq_true rfl, Nat.le_of_ble_eq_true rfl⟩) (preS hK hP) rfl rfl hl.1 rfl (lv_room (Nat.le_of_ble_eq_true rfl)) dX7_compare_199 ⟨Nat.zero_le _, Nat.zero_le _⟩) ?_
                            refine lv_iadd hx hb dX7_compare_202 ?_
                            refine lv_istore (lv' := [(6, .int (n + (fX7_one σ 1))), (10, .int 0), (9, .int (fX7_lives σ (nI i) p3 p4)), (8, .int (fX7_lives σ (nI i) p2 p4)), (0, .ref (q 0)), (1, .int p1), (2, .int p2), (3, .int p3), (4, .int p4), (5, .int p5), (7, .int (nI i))]) hx hb dX7_compare_203 hl (by decide) rfl (fun ls hl => ?_)
                            refine lv_iinc (v := nI (i + 1)) (lv' := [(7, .int (nI (i + 1))), (6, .int (n + (fX7_one σ 1))), (10, .int 0), (9, .int (fX7_lives σ (nI i) p3 p4)), (8, .int (fX7_lives σ (nI i) p2 p4)), (0, .ref (q 0)), (1, .int p1), (2, .int p2), (3, .int p3), (4, .int p4), (5, .int p5)]) hx hb dX7_compare_205 hl (k := 10) rfl (nI_1 i) (by decide) rfl (fun ls hl => ?_)
                            refine lv_goto (tgt := 47) hx hb dX7_compare_208 (by decide) ?_
                            exact ih (i + 1) (n + (fX7_one σ 1)) (by omega) (by rw [hE, flX7_compare_47, if_neg c_80, if_pos c_85, if_pos c_128, if_neg c_133, if_neg c_138]) ls (lv_sub hl [5, 6, 7, 8, 9, 10, 0, 1] rfl)
                    · refine lv_iload hx hb dX7_compare_88 (lv_at hl 7 rfl) ?_
                      refine lv_iconst (v := 3) hx hb dX7_compare_90 (by decide) ?_
                      refine lv_icmp_ne (tgt := 121) hx hb dX7_compare_91 (by decide) (fun c_91 => ?_) (fun c_91 => ?_)
                      · refine lv_iconst (v := 0) hx hb dX7_compare_121 (by decide) ?_
                        refine lv_istore (lv' := [(10, .int 0), (9, .int (fX7_lives σ (nI i) p3 p4)), (8, .int (fX7_lives σ (nI i) p2 p4)), (0, .ref (q 0)), (1, .int p1), (2, .int p2), (3, .int p3), (4, .int p4), (5, .int p5), (7, .int (nI i)), (6, .int n)]) hx hb dX7_compare_122 hl (by decide) rfl (fun ls hl => ?_)
                        refine lv_iload hx hb dX7_compare_124 (lv_at hl 10 rfl) ?_
                        refine lv_iload hx hb dX7_compare_126 (lv_at hl 8 rfl) ?_
                        refine lv_if_ne (tgt := 149) hx hb dX7_compare_128 (by decide) (fun c_128 => ?_) (fun c_128 => ?_)
                        · refine lv_iload hx hb dX7_compare_149 (lv_at hl 8 rfl) ?_
                          refine lv_iconst (v := 1) hx hb dX7_compare_151 (by decide) ?_
                          refine lv_icmp_ne (tgt := 173) hx hb dX7_compare_152 (by decide) (fun c_152 => ?_) (fun c_152 => ?_)
                          · refine lv_iload hx hb dX7_compare_173 (lv_at hl 8 rfl) ?_
                            refine lv_iconst (v := 2) hx hb dX7_compare_175 (by decide) ?_
                            refine lv_icmp_ne (tgt := 197) hx hb dX7_compare_176 (by decide) (fun c_176 => ?_) (fun c_176 => ?_)
                            · refine lv_iload hx hb dX7_compare_197 (lv_at hl 0 rfl) ?_
                              refine xc_i (va_runS (As := [.int 0]) (rest := [.int n]) ⟨hx, hb, hml, hown, hts⟩ (c_X7_one l dC dI cI cJ q σ 0) (va_cwS 1 hts (gS ml_X7_135 st_X7_one in_X7 co_X7_one) rfl rfl rfl (by decide +kernel) ⟨Nat.le_of_ble_eq_true rfl, Nat.le_of_ble_eq_true rfl⟩) (preS hK hP) rfl rfl hl.1 rfl (lv_room (Nat.le_of_ble_eq_true rfl)) dX7_compare_199 ⟨Nat.zero_le _, Nat.zero_le _⟩) ?_
                              refine lv_iadd hx hb dX7_compare_202 ?_
                              refine lv_istore (lv' := [(6, .int (n + (fX7_one σ 0))), (10, .int 0), (9, .int (fX7_lives σ (nI i) p3 p4)), (8, .int (fX7_lives σ (nI i) p2 p4)), (0, .ref (q 0)), (1, .int p1), (2, .int p2), (3, .int p3), (4, .int p4), (5, .int p5), (7, .int (nI i))]) hx hb dX7_compare_203 hl (by decide) rfl (fun ls hl => ?_)
                              refine lv_iinc (v := nI (i + 1)) (lv' := [(7, .int (nI (i + 1))), (6, .int (n + (fX7_one σ 0))), (10, .int 0), (9, .int (fX7_lives σ (nI i) p3 p4)), (8, .int (fX7_lives σ (nI i) p2 p4)), (0, .ref (q 0)), (1, .int p1), (2, .int p2), (3, .int p3), (4, .int p4), (5, .int p5)]) hx hb dX7_compare_205 hl (k := 10) rfl (nI_1 i) (by decide) rfl (fun ls hl => ?_)
                              refine lv_goto (tgt := 47) hx hb dX7_compare_208 (by decide) ?_
                              exact ih (i + 1) (n + (fX7_one σ 0)) (by omega) (by rw [hE, flX7_compare_47, if_neg c_80, if_neg c_85, if_neg c_91, if_neg c_128, if_neg c_152, if_neg c_176]) ls (lv_sub hl [5, 6, 7, 8, 9, 10, 0, 1] rfl)
                            · refine lv_iload hx hb dX7_compare_179 (lv_at hl 2 rfl) ?_
                              refine lv_if_eq (tgt := 193) hx hb dX7_compare_181 (by decide) (fun c_181 => ?_) (fun c_181 => ?_)
                              · refine lv_iconst (v := 0) hx hb dX7_compare_193 (by decide) ?_
                                refine lv_goto (tgt := 199) hx hb dX7_compare_194 (by decide) ?_
                                refine xc_i (va_runS (As := [.int 0]) (rest := [.int n]) ⟨hx, hb, hml, hown, hts⟩ (c_X7_one l dC dI cI cJ q σ 0) (va_cwS 1 hts (gS ml_X7_135 st_X7_one in_X7 co_X7_one) rfl rfl rfl (by decide +kernel) ⟨Nat.le_of_ble_eq_true rfl, Nat.le_of_ble_eq_true rfl⟩) (preS hK hP) rfl rfl hl.1 rfl (lv_room (Nat.le_of_ble_eq_true rfl)) dX7_compare_199 ⟨Nat.zero_le _, Nat.zero_le _⟩) ?_
                                refine lv_iadd hx hb dX7_compare_202 ?_
                                refine lv_istore (lv' := [(6, .int (n + (fX7_one σ 0))), (10, .int 0), (9, .int (fX7_lives σ (nI i) p3 p4)), (8, .int (fX7_lives σ (nI i) p2 p4)), (0, .ref (q 0)), (1, .int p1), (2, .int p2), (3, .int p3), (4, .int p4), (5, .int p5), (7, .int (nI i))]) hx hb dX7_compare_203 hl (by decide) rfl (fun ls hl => ?_)
                                refine lv_iinc (v := nI (i + 1)) (lv' := [(7, .int (nI (i + 1))), (6, .int (n + (fX7_one σ 0))), (10, .int 0), (9, .int (fX7_lives σ (nI i) p3 p4)), (8, .int (fX7_lives σ (nI i) p2 p4)), (0, .ref (q 0)), (1, .int p1), (2, .int p2), (3, .int p3), (4, .int p4), (5, .int p5)]) hx hb dX7_compare_205 hl (k := 10) rfl (nI_1 i) (by decide) rfl (fun ls hl => ?_)
                                refine lv_goto (tgt := 47) hx hb dX7_compare_208 (by decide) ?_
                                exact ih (i + 1) (n + (fX7_one σ 0)) (by omega) (by rw [hE, flX7_compare_47, if_neg c_80, if_neg c_85, if_neg c_91, if_neg c_128, if_neg c_152, if_pos c_176, if_pos c_181]) ls (lv_sub hl [5, 6, 7, 8, 9, 10, 0, 1] rfl)
                              · refine lv_iload hx hb dX7_compare_184 (lv_at hl 1 rfl) ?_
                                refine lv_if_ne (tgt := 193) hx hb dX7_compare_186 (by decide) (fun c_186 => ?_) (fun c_186 => ?_)
                                · refine lv_iconst (v := 0) hx hb dX7_compare_193 (by decide) ?_
                                  refine lv_goto (tgt := 199) hx hb dX7_compare_194 (by decide) ?_
                                  refine xc_i (va_runS (As := [.int 0]) (rest := [.int n]) ⟨hx, hb, hml, hown, hts⟩ (c_X7_one l dC dI cI cJ q σ 0) (va_cwS 1 hts (gS ml_X7_135 st_X7_one in_X7 co_X7_one) rfl rfl rfl (by decide +kernel) ⟨Nat.le_of_ble_eq_true rfl, Nat.le_of_ble_eq_true rfl⟩) (preS hK hP) rfl rfl hl.1 rfl (lv_room (Nat.le_of_ble_eq_true rfl)) dX7_compare_199 ⟨Nat.zero_le _, Nat.zero_le _⟩) ?_
                                  refine lv_iadd hx hb dX7_compare_202 ?_
                                  refine lv_istore (lv' := [(6, .int (n + (fX7_one σ 0))), (10, .int 0), (9, .int (fX7_lives σ (nI i) p3 p4)), (8, .int (fX7_lives σ (nI i) p2 p4)), (0, .ref (q 0)), (1, .int p1), (2, .int p2), (3, .int p3), (4, .int p4), (5, .int p5), (7, .int (nI i))]) hx hb dX7_compare_203 hl (by decide) rfl (fun ls hl => ?_)
                                  refine lv_iinc (v := nI (i + 1)) (lv' := [(7, .int (nI (i + 1))), (6, .int (n + (fX7_one σ 0))), (10, .int 0), (9, .int (fX7_lives σ (nI i) p3 p4)), (8, .int (fX7_lives σ (nI i) p2 p4)), (0, .ref (q 0)), (1, .int p1), (2, .int p2), (3, .int p3), (4, .int p4), (5, .int p5)]) hx hb dX7_compare_205 hl (k := 10) rfl (nI_1 i) (by decide) rfl (fun ls hl => ?_)
                                  refine lv_goto (tgt := 47) hx hb dX7_compare_208 (by decide) ?_
                                  exact ih (i + 1) (n + (fX7_one σ 0)) (by omega) (by rw [hE, flX7_compare_47, if_neg c_80, if_neg c_85, if_neg c_91, if_neg c_128, if_neg c_152, if_pos c_176, if_neg c_181, if_neg c_186]) ls (lv_sub hl [5, 6, 7, 8, 9, 10, 0, 1] rfl)
                                · refine lv_iconst (v := 1) hx hb dX7_compare_189 (by decide) ?_
                                  refine lv_goto (tgt := 199) hx hb dX7_compare_190 (by decide) ?_
                                  refine xc_i (va_runS (As := [.int 1]) (rest := [.int n]) ⟨hx, hb, hml, hown, hts⟩ (c_X7_one l dC dI cI cJ q σ 1) (va_cwS 1 hts (gS ml_X7_135 st_X7_one in_X7 co_X7_one) rfl rfl rfl (by decide +kernel) ⟨Nat.le_of_ble_eq_true rfl, Nat.le_of_ble_eq_true rfl⟩) (preS hK hP) rfl rfl hl.1 rfl (lv_room (Nat.le_of_ble_eq_true rfl)) dX7_compare_199 ⟨Nat.zero_le _, Nat.zero_le _⟩) ?_
                                  refine lv_iadd hx hb dX7_compare_202 ?_
                                  refine lv_istore (lv' := [(6, .int (n + (fX7_one σ 1))), (10, .int 0), (9, .int (fX7_lives σ (nI i) p3 p4)), (8, .int (fX7_lives σ (nI i) p2 p4)), (0, .ref (q 0)), (1, .int p1), (2, .int p2), (3, .int p3), (4, .int p4), (5, .int p5), (7, .int (nI i))]) hx hb dX7_compare_203 hl (by decide) rfl (fun ls hl => ?_)
                                  refine lv_iinc (v := nI (i + 1)) (lv' := [(7, .int (nI (i + 1))), (6, .int (n + (fX7_one σ 1))), (10, .int 0), (9, .int (fX7_lives σ (nI i) p3 p4)), (8, .int (fX7_lives σ (nI i) p2 p4)), (0, .ref (q 0)), (1, .int p1), (2, .int p2), (3, .int p3), (4, .int p4), (5, .int p5)]) hx hb dX7_compare_205 hl (k := 10) rfl (nI_1 i) (by decide) rfl (fun ls hl => ?_)
                                  refine lv_goto (tgt := 47) hx hb dX7_compare_208 (by decide) ?_
                                  exact ih (i + 1) (n + (fX7_one σ 1)) (by omega) (by rw [hE, flX7_compare_47, if_neg c_80, if_neg c_85, if_neg c_91, if_neg c_128, if_neg c_152, if_pos c_176, if_neg c_181, if_pos c_186]) ls (lv_sub hl [5, 6, 7, 8, 9, 10, 0, 1] rfl)
                          · refine lv_iload hx hb dX7_compare_155 (lv_at hl 1 rfl) ?_
                            refine lv_if_eq (tgt := 169) hx hb dX7_compare_157 (by decide) (fun c_157 => ?_) (fun c_157 => ?_)
                            · refine lv_iconst (v := 0) hx hb dX7_compare_169 (by decide) ?_
                              refine lv_goto (tgt := 199) hx hb dX7_compare_170 (by decide) ?_
                              refine xc_i (va_runS (As := [.int 0]) (rest := [.int n]) ⟨hx, hb, hml, hown, hts⟩ (c_X7_one l dC dI cI cJ q σ 0) (va_cwS 1 hts (gS ml_X7_135 st_X7_one in_X7 co_X7_one) rfl rfl rfl (by decide +kernel) ⟨Nat.le_of_ble_eq_true rfl, Nat.le_of_ble_eq_true rfl⟩) (preS hK hP) rfl rfl hl.1 rfl (lv_room (Nat.le_of_ble_eq_true rfl)) dX7_compare_199 ⟨Nat.zero_le _, Nat.zero_le _⟩) ?_
                              refine lv_iadd hx hb dX7_compare_202 ?_
                              refine lv_istore (lv' := [(6, .int (n + (fX7_one σ 0))), (10, .int 0), (9, .int (fX7_lives σ (nI i) p3 p4)), (8, .int (fX7_lives σ (nI i) p2 p4)), (0, .ref (q 0)), (1, .int p1), (2, .int p2), (3, .int p3), (4, .int p4), (5, .int p5), (7, .int (nI i))]) hx hb dX7_compare_203 hl (by decide) rfl (fun ls hl => ?_)
                              refine lv_iinc (v := nI (i + 1)) (lv' := [(7, .int (nI (i + 1))), (6, .int (n + (fX7_one σ 0))), (10, .int 0), (9, .int (fX7_lives σ (nI i) p3 p4)), (8, .int (fX7_lives σ (nI i) p2 p4)), (0, .ref (q 0)), (1, .int p1), (2, .int p2), (3, .int p3), (4, .int p4), (5, .int p5)]) hx hb dX7_compare_205 hl (k := 10) rfl (nI_1 i) (by decide) rfl (fun ls hl => ?_)
                              refine lv_goto (tgt := 47) hx hb dX7_compare_208 (by decide) ?_
                              exact ih (i + 1) (n + (fX7_one σ 0)) (by omega) (by rw [hE, flX7_compare_47, if_neg c_80, if_neg c_85, if_neg c_91, if_neg c_128, if_pos c_152, if_pos c_157]) ls (lv_sub hl [5, 6, 7, 8, 9, 10, 0, 1] rfl)
                            · refine lv_iload hx hb dX7_compare_160 (lv_at hl 2 rfl) ?_
                              refine lv_if_ne (tgt := 169) hx hb dX7_compare_162 (by decide) (fun c_162 => ?_) (fun c_162 => ?_)
                              · refine lv_iconst (v := 0) hx hb dX7_compare_169 (by decide) ?_
                                refine lv_goto (tgt := 199) hx hb dX7_compare_170 (by decide) ?_
                                refine xc_i (va_runS (As := [.int 0]) (rest := [.int n]) ⟨hx, hb, hml, hown, hts⟩ (c_X7_one l dC dI cI cJ q σ 0) (va_cwS 1 hts (gS ml_X7_135 st_X7_one in_X7 co_X7_one) rfl rfl rfl (by decide +kernel) ⟨Nat.le_of_ble_eq_true rfl, Nat.le_of_ble_eq_true rfl⟩) (preS hK hP) rfl rfl hl.1 rfl (lv_room (Nat.le_of_ble_eq_true rfl)) dX7_compare_199 ⟨Nat.zero_le _, Nat.zero_le _⟩) ?_
                                refine lv_iadd hx hb dX7_compare_202 ?_
                                refine lv_istore (lv' := [(6, .int (n + (fX7_one σ 0))), (10, .int 0), (9, .int (fX7_lives σ (nI i) p3 p4)), (8, .int (fX7_lives σ (nI i) p2 p4)), (0, .ref (q 0)), (1, .int p1), (2, .int p2), (3, .int p3), (4, .int p4), (5, .int p5), (7, .int (nI i))]) hx hb dX7_compare_203 hl (by decide) rfl (fun ls hl => ?_)
                                refine lv_iinc (v := nI (i + 1)) (lv' := [(7, .int (nI (i + 1))), (6, .int (n + (fX7_one σ 0))), (10, .int 0), (9, .int (fX7_lives σ (nI i) p3 p4)), (8, .int (fX7_lives σ (nI i) p2 p4)), (0, .ref (q 0)), (1, .int p1), (2, .int p2), (3, .int p3), (4, .int p4), (5, .int p5)]) hx hb dX7_compare_205 hl (k := 10) rfl (nI_1 i) (by decide) rfl (fun ls hl => ?_)
                                refine lv_goto (tgt := 47) hx hb dX7_compare_208 (by decide) ?_
                                exact ih (i + 1) (n + (fX7_one σ 0)) (by omega) (by rw [hE, flX7_compare_47, if_neg c_80, if_neg c_85, if_neg c_91, if_neg c_128, if_pos c_152, if_neg c_157, if_neg c_162]) ls (lv_sub hl [5, 6, 7, 8, 9, 10, 0, 1] rfl)
                              · refine lv_iconst (v := 1) hx hb dX7_compare_165 (by decide) ?_
                                refine lv_goto (tgt := 199) hx hb dX7_compare_166 (by decide) ?_
                                refine xc_i (va_runS (As := [.int 1]) (rest := [.int n]) ⟨hx, hb, hml, hown, hts⟩ (c_X7_one l dC dI cI cJ q σ 1) (va_cwS 1 hts (gS ml_X7_135 st_X7_one in_X7 co_X7_one) rfl rfl rfl (by decide +kernel) ⟨Nat.le_of_ble_eq_true rfl, Nat.le_of_ble_eq_true rfl⟩) (preS hK hP) rfl rfl hl.1 rfl (lv_room (Nat.le_of_ble_eq_true rfl)) dX7_compare_199 ⟨Nat.zero_le _, Nat.zero_le _⟩) ?_
                                refine lv_iadd hx hb dX7_compare_202 ?_
                                refine lv_istore (lv' := [(6, .int (n + (fX7_one σ 1))), (10, .int 0), (9, .int (fX7_lives σ (nI i) p3 p4)), (8, .int (fX7_lives σ (nI i) p2 p4)), (0, .ref (q 0)), (1, .int p1), (2, .int p2), (3, .int p3), (4, .int p4), (5, .int p5), (7, .int (nI i))]) hx hb dX7_compare_203 hl (by decide) rfl (fun ls hl => ?_)
                                refine lv_iinc (v := nI (i + 1)) (lv' := [(7, .int (nI (i + 1))), (6, .int (n + (fX7_one σ 1))), (10, .int 0), (9, .int (fX7_lives σ (nI i) p3 p4)), (8, .int (fX7_lives σ (nI i) p2 p4)), (0, .ref (q 0)), (1, .int p1), (2, .int p2), (3, .int p3), (4, .int p4), (5, .int p5)]) hx hb dX7_compare_205 hl (k := 10) rfl (nI_1 i) (by decide) rfl (fun ls hl => ?_)
                                refine lv_goto (tgt := 47) hx hb dX7_compare_208 (by decide) ?_
                                exact ih (i + 1) (n + (fX7_one σ 1)) (by omega) (by rw [hE, flX7_compare_47, if_neg c_80, if_neg c_85, if_neg c_91, if_neg c_128, if_pos c_152, if_neg c_157, if_pos c_162]) ls (lv_sub hl [5, 6, 7, 8, 9, 10, 0, 1] rfl)
                        · refine lv_iload hx hb dX7_compare_131 (lv_at hl 2 rfl) ?_
                          refine lv_if_eq (tgt := 145) hx hb dX7_compare_133 (by decide) (fun c_133 => ?_) (fun c_133 => ?_)
                          · refine lv_iconst (v := 0) hx hb dX7_compare_145 (by decide) ?_
                            refine lv_goto (tgt := 199) hx hb dX7_compare_146 (by decide) ?_
                            refine xc_i (va_runS (As := [.int 0]) (rest := [.int n]) ⟨hx, hb, hml, hown, hts⟩ (c_X7_one l dC dI cI cJ q σ 0) (va_cwS 1 hts (gS ml_X7_135 st_X7_one in_X7 co_X7_one) rfl rfl rfl (by decide +kernel) ⟨Nat.le_of_ble_eq_true rfl, Nat.le_of_ble_eq_true rfl⟩) (preS hK hP) rfl rfl hl.1 rfl (lv_room (Nat.le_of_ble_eq_true rfl)) dX7_compare_199 ⟨Nat.zero_le _, Nat.zero_le _⟩) ?_
                            refine lv_iadd hx hb dX7_compare_202 ?_
                            refine lv_istore (lv' := [(6, .int (n + (fX7_one σ 0))), (10, .int 0), (9, .int (fX7_lives σ (nI i) p3 p4)), (8, .int (fX7_lives σ (nI i) p2 p4)), (0, .ref (q 0)), (1, .int p1), (2, .int p2), (3, .int p3), (4, .int p4), (5, .int p5), (7, .int (nI i))]) hx hb dX7_compare_203 hl (by decide) rfl (fun ls hl => ?_)
                            refine lv_iinc (v := nI (i + 1)) (lv' := [(7, .int (nI (i + 1))), (6, .int (n + (fX7_one σ 0))), (10, .int 0), (9, .int (fX7_lives σ (nI i) p3 p4)), (8, .int (fX7_lives σ (nI i) p2 p4)), (0, .ref (q 0)), (1, .int p1), (2, .int p2), (3, .int p3), (4, .int p4), (5, .int p5)]) hx hb dX7_compare_205 hl (k := 10) rfl (nI_1 i) (by decide) rfl (fun ls hl => ?_)
                            refine lv_goto (tgt := 47) hx hb dX7_compare_208 (by decide) ?_
                            exact ih (i + 1) (n + (fX7_one σ 0)) (by omega) (by rw [hE, flX7_compare_47, if_neg c_80, if_neg c_85, if_neg c_91, if_pos c_128, if_pos c_133]) ls (lv_sub hl [5, 6, 7, 8, 9, 10, 0, 1] rfl)
                          · refine lv_iload hx hb dX7_compare_136 (lv_at hl 1 rfl) ?_
                            refine lv_if_eq (tgt := 145) hx hb dX7_compare_138 (by decide) (fun c_138 => ?_) (fun c_138 => ?_)
                            · refine lv_iconst (v := 0) hx hb dX7_compare_145 (by decide) ?_
                              refine lv_goto (tgt := 199) hx hb dX7_compare_146 (by decide) ?_
                              refine xc_i (va_runS (As := [.int 0]) (rest := [.int n]) ⟨hx, hb, hml, hown, hts⟩ (c_X7_one l dC dI cI cJ q σ 0) (va_cwS 1 hts (gS ml_X7_135 st_X7_one in_X7 co_X7_one) rfl rfl rfl (by decide +kernel) ⟨Nat.le_of_ble_eq_true rfl, Nat.le_of_ble_eq_true rfl⟩) (preS hK hP) rfl rfl hl.1 rfl (lv_room (Nat.le_of_ble_eq_true rfl)) dX7_compare_199 ⟨Nat.zero_le _, Nat.zero_le _⟩) ?_
                              refine lv_iadd hx hb dX7_compare_202 ?_
                              refine lv_istore (lv' := [(6, .int (n + (fX7_one σ 0))), (10, .int 0), (9, .int (fX7_lives σ (nI i) p3 p4)), (8, .int (fX7_lives σ (nI i) p2 p4)), (0, .ref (q 0)), (1, .int p1), (2, .int p2), (3, .int p3), (4, .int p4), (5, .int p5), (7, .int (nI i))]) hx hb dX7_compare_203 hl (by decide) rfl (fun ls hl => ?_)
                              refine lv_iinc (v := nI (i + 1)) (lv' := [(7, .int (nI (i + 1))), (6, .int (n + (fX7_one σ 0))), (10, .int 0), (9, .int (fX7_lives σ (nI i) p3 p4)), (8, .int (fX7_lives σ (nI i) p2 p4)), (0, .ref (q 0)), (1, .int p1), (2, .int p2), (3, .int p3), (4, .int p4), (5, .int p5)]) hx hb dX7_compare_205 hl (k := 10) rfl (nI_1 i) (by decide) rfl (fun ls hl => ?_)
                              refine lv_goto (tgt := 47) hx hb dX7_compare_208 (by decide) ?_
                              exact ih (i + 1) (n + (fX7_one σ 0)) (by omega) (by rw [hE, flX7_compare_47, if_neg c_80, if_neg c_85, if_neg c_91, if_pos c_128, if_neg c_133, if_pos c_138]) ls (lv_sub hl [5, 6, 7, 8, 9, 10, 0, 1] rfl)
                            · refine lv_iconst (v := 1) hx hb dX7_compare_141 (by decide) ?_
                              refine lv_goto (tgt := 199) hx hb dX7_compare_142 (by decide) ?_
                              refine xc_i (va_runS (As := [.int 1]) (rest := [.int n]) ⟨hx, hb, hml, hown, hts⟩ (c_X7_one l dC dI cI cJ q σ 1) (va_cwS 1 hts (gS ml_X7_135 st_X7_one in_X7 co_X7_one) rfl rfl rfl (by decide +kernel) ⟨Nat.le_of_ble_eq_true rfl, Nat.le_of_ble_eq_true rfl⟩) (preS hK hP) rfl rfl hl.1 rfl (lv_room (Nat.le_of_ble_eq_true rfl)) dX7_compare_199 ⟨Nat.zero_le _, Nat.zero_le _⟩) ?_
                              refine lv_iadd hx hb dX7_compare_202 ?_
                              refine lv_istore (lv' := [(6, .int (n + (fX7_one σ 1))), (10, .int 0), (9, .int (fX7_lives σ (nI i) p3 p4)), (8, .int (fX7_lives σ (nI i) p2 p4)), (0, .ref (q 0)), (1, .int p1), (2, .int p2), (3, .int p3), (4, .int p4), (5, .int p5), (7, .int (nI i))]) hx hb dX7_compare_203 hl (by decide) rfl (fun ls hl => ?_)
                              refine lv_iinc (v := nI (i + 1)) (lv' := [(7, .int (nI (i + 1))), (6, .int (n + (fX7_one σ 1))), (10, .int 0), (9, .int (fX7_lives σ (nI i) p3 p4)), (8, .int (fX7_lives σ (nI i) p2 p4)), (0, .ref (q 0)), (1, .int p1), (2, .int p2), (3, .int p3), (4, .int p4), (5, .int p5)]) hx hb dX7_compare_205 hl (k := 10) rfl (nI_1 i) (by decide) rfl (fun ls hl => ?_)
                              refine lv_goto (tgt := 47) hx hb dX7_compare_208 (by decide) ?_
                              exact ih (i + 1) (n + (fX7_one σ 1)) (by omega) (by rw [hE, flX7_compare_47, if_neg c_80, if_neg c_85, if_neg c_91, if_pos c_128, if_neg c_133, if_neg c_138]) ls (lv_sub hl [5, 6, 7, 8, 9, 10, 0, 1] rfl)
                      · refine lv_aload_n hx hb dX7_compare_94 rfl (lv_at hl 2 rfl) ?_
                        refine lv_iload hx hb dX7_compare_95 (lv_at hl 8 rfl) ?_
                        refine lv_iload_n hx hb dX7_compare_97 rfl (lv_at hl 3 rfl) ?_
                        refine lv_iload_n hx hb dX7_compare_98 rfl (lv_at hl 4 rfl) ?_
                        refine lv_iload hx hb dX7_compare_99 (lv_at hl 6 rfl) ?_
                        refine xc_i (va_runV (As := [.int (nI i), .int p1, .int p2, .int p4]) (rest := []) ⟨hx, hb, hml, hown, hts⟩ (c_X7_valueOf l dC dI cI cJ q σ (nI i) p1 p2 p4 (by assumption)) (cwV 4 hts (gV ml_X7_131 im_X7_valueOf se_X7_valueOf in_X7 co_X7_valueOf) rfl rfl rfl (by decide +kernel) ⟨Nat.le_of_ble_eq_true rfl, Nat.le_of_ble_eq_true rfl⟩) (preV hK hP (pos := 0) (ci := 7) rfl rfl) rfl rfl hl.1 rfl (lv_room (Nat.le_of_ble_eq_true rfl)) dX7_compare_101 ⟨Nat.zero_le _, Nat.zero_le _⟩) ?_
                        refine lv_aload_n hx hb dX7_compare_104 rfl (lv_at hl 2 rfl) ?_
                        refine lv_iload hx hb dX7_compare_105 (lv_at hl 8 rfl) ?_
                        refine lv_iload_n hx hb dX7_compare_107 rfl (lv_at hl 3 rfl) ?_
                        refine lv_iload_n hx hb dX7_compare_108 rfl (lv_at hl 5 rfl) ?_
                        refine lv_iload hx hb dX7_compare_109 (lv_at hl 6 rfl) ?_
                        refine xc_i (va_runV (As := [.int (nI i), .int p1, .int p3, .int p4]) (rest := [.int (fX7_valueOf σ (nI i) p1 p2 p4)]) ⟨hx, hb, hml, hown, hts⟩ (c_X7_valueOf l dC dI cI cJ q σ (nI i) p1 p3 p4 (by assumption)) (cwV 4 hts (gV ml_X7_131 im_X7_valueOf se_X7_valueOf in_X7 co_X7_valueOf) rfl rfl rfl (by decide +kernel) ⟨Nat.le_of_ble_eq_true rfl, Nat.le_of_ble_eq_true rfl⟩) (preV hK hP (pos := 0) (ci := 7) rfl rfl) rfl rfl hl.1 rfl (lv_room (Nat.le_of_ble_eq_true rfl)) dX7_compare_111 ⟨Nat.zero_le _, Nat.zero_le _⟩) ?_
                        refine lv_icmp_eq (tgt := 121) hx hb dX7_compare_114 (by decide) (fun c_114 => ?_) (fun c_114 => ?_)
                        · refine lv_iconst (v := 0) hx hb dX7_compare_121 (by decide) ?_
                          refine lv_istore (lv' := [(10, .int 0), (9, .int (fX7_lives σ (nI i) p3 p4)), (8, .int (fX7_lives σ (nI i) p2 p4)), (0, .ref (q 0)), (1, .int p1), (2, .int p2), (3, .int p3), (4, .int p4), (5, .int p5), (7, .int (nI i)), (6, .int n)]) hx hb dX7_compare_122 hl (by decide) rfl (fun ls hl => ?_)
                          refine lv_iload hx hb dX7_compare_124 (lv_at hl 10 rfl) ?_
                          refine lv_iload hx hb dX7_compare_126 (lv_at hl 8 rfl) ?_
                          refine lv_if_ne (tgt := 149) hx hb dX7_compare_128 (by decide) (fun c_128 => ?_) (fun c_128 => ?_)
                          · refine lv_iload hx hb dX7_compare_149 (lv_at hl 8 rfl) ?_
                            refine lv_iconst (v := 1) hx hb dX7_compare_151 (by decide) ?_
                            refine lv_icmp_ne (tgt := 173) hx hb dX7_compare_152 (by decide) (fun c_152 => ?_) (fun c_152 => ?_)
                            · refine lv_iload hx hb dX7_compare_173 (lv_at hl 8 rfl) ?_
                              refine lv_iconst (v := 2) hx hb dX7_compare_175 (by decide) ?_
                              refine lv_icmp_ne (tgt := 197) hx hb dX7_compare_176 (by decide) (fun c_176 => ?_) (fun c_176 => ?_)
                              · refine lv_iload hx hb dX7_compare_197 (lv_at hl 0 rfl) ?_
                                refine xc_i (va_runS (As := [.int 0]) (rest := [.int n]) ⟨hx, hb, hml, hown, hts⟩ (c_X7_one l dC dI cI cJ q σ 0) (va_cwS 1 hts (gS ml_X7_135 st_X7_one in_X7 co_X7_one) rfl rfl rfl (by decide +kernel) ⟨Nat.le_of_ble_eq_true rfl, Nat.le_of_ble_eq_true rfl⟩) (preS hK hP) rfl rfl hl.1 rfl (lv_room (Nat.le_of_ble_eq_true rfl)) dX7_compare_199 ⟨Nat.zero_le _, Nat.zero_le _⟩) ?_
                                refine lv_iadd hx hb dX7_compare_202 ?_
                                refine lv_istore (lv' := [(6, .int (n + (fX7_one σ 0))), (10, .int 0), (9, .int (fX7_lives σ (nI i) p3 p4)), (8, .int (fX7_lives σ (nI i) p2 p4)), (0, .ref (q 0)), (1, .int p1), (2, .int p2), (3, .int p3), (4, .int p4), (5, .int p5), (7, .int (nI i))]) hx hb dX7_compare_203 hl (by decide) rfl (fun ls hl => ?_)
                                refine lv_iinc (v := nI (i + 1)) (lv' := [(7, .int (nI (i + 1))), (6, .int (n + (fX7_one σ 0))), (10, .int 0), (9, .int (fX7_lives σ (nI i) p3 p4)), (8, .int (fX7_lives σ (nI i) p2 p4)), (0, .ref (q 0)), (1, .int p1), (2, .int p2), (3, .int p3), (4, .int p4), (5, .int p5)]) hx hb dX7_compare_205 hl (k := 10) rfl (nI_1 i) (by decide) rfl (fun ls hl => ?_)
                                refine lv_goto (tgt := 47) hx hb dX7_compare_208 (by decide) ?_
                                exact ih (i + 1) (n + (fX7_one σ 0)) (by omega) (by rw [hE, flX7_compare_47, if_neg c_80, if_neg c_85, if_pos c_91, if_pos c_114, if_neg c_128, if_neg c_152, if_neg c_176]) ls (lv_sub hl [5, 6, 7, 8, 9, 10, 0, 1] rfl)
                              · refine lv_iload hx hb dX7_compare_179 (lv_at hl 2 rfl) ?_
                                refine lv_if_eq (tgt := 193) hx hb dX7_compare_181 (by decide) (fun c_181 => ?_) (fun c_181 => ?_)
                                · refine lv_iconst (v := 0) hx hb dX7_compare_193 (by decide) ?_
                                  refine lv_goto (tgt := 199) hx hb dX7_compare_194 (by decide) ?_
                                  refine xc_i (va_runS (As := [.int 0]) (rest := [.int n]) ⟨hx, hb, hml, hown, hts⟩ (c_X7_one l dC dI cI cJ q σ 0) (va_cwS 1 hts (gS ml_X7_135 st_X7_one in_X7 co_X7_one) rfl rfl rfl (by decide +kernel) ⟨Nat.le_of_ble_eq_true rfl, Nat.le_of_ble_eq_true rfl⟩) (preS hK hP) rfl rfl hl.1 rfl (lv_room (Nat.le_of_ble_eq_true rfl)) dX7_compare_199 ⟨Nat.zero_le _, Nat.zero_le _⟩) ?_
                                  refine lv_iadd hx hb dX7_compare_202 ?_
                                  refine lv_istore (lv' := [(6, .int (n + (fX7_one σ 0))), (10, .int 0), (9, .int (fX7_lives σ (nI i) p3 p4)), (8, .int (fX7_lives σ (nI i) p2 p4)), (0, .ref (q 0)), (1, .int p1), (2, .int p2), (3, .int p3), (4, .int p4), (5, .int p5), (7, .int (nI i))]) hx hb dX7_compare_203 hl (by decide) rfl (fun ls hl => ?_)
                                  refine lv_iinc (v := nI (i + 1)) (lv' := [(7, .int (nI (i + 1))), (6, .int (n + (fX7_one σ 0))), (10, .int 0), (9, .int (fX7_lives σ (nI i) p3 p4)), (8, .int (fX7_lives σ (nI i) p2 p4)), (0, .ref (q 0)), (1, .int p1), (2, .int p2), (3, .int p3), (4, .int p4), (5, .int p5)]) hx hb dX7_compare_205 hl (k := 10) rfl (nI_1 i) (by decide) rfl (fun ls hl => ?_)
                                  refine lv_goto (tgt := 47) hx hb dX7_compare_208 (by decide) ?_
                                  exact ih (i + 1) (n + (fX7_one σ 0)) (by omega) (by rw [hE, flX7_compare_47, if_neg c_80, if_neg c_85, if_pos c_91, if_pos c_114, if_neg c_128, if_neg c_152, if_pos c_176, if_pos c_181]) ls (lv_sub hl [5, 6, 7, 8, 9, 10, 0, 1] rfl)
                                · refine lv_iload hx hb dX7_compare_184 (lv_at hl 1 rfl) ?_
                                  refine lv_if_ne (tgt := 193) hx hb dX7_compare_186 (by decide) (fun c_186 => ?_) (fun c_186 => ?_)
                                  · refine lv_iconst (v := 0) hx hb dX7_compare_193 (by decide) ?_
                                    refine lv_goto (tgt := 199) hx hb dX7_compare_194 (by decide) ?_
                                    refine xc_i (va_runS (As := [.int 0]) (rest := [.int n]) ⟨hx, hb, hml, hown, hts⟩ (c_X7_one l dC dI cI cJ q σ 0) (va_cwS 1 hts (gS ml_X7_135 st_X7_one in_X7 co_X7_one) rfl rfl rfl (by decide +kernel) ⟨Nat.le_of_ble_eq_true rfl, Nat.le_of_ble_eq_true rfl⟩) (preS hK hP) rfl rfl hl.1 rfl (lv_room (Nat.le_of_ble_eq_true rfl)) dX7_compare_199 ⟨Nat.zero_le _, Nat.zero_le _⟩) ?_
                                    refine lv_iadd hx hb dX7_compare_202 ?_
                                    refine lv_istore (lv' := [(6, .int (n + (fX7_one σ 0))), (10, .int 0), (9, .int (fX7_lives σ (nI i) p3 p4)), (8, .int (fX7_lives σ (nI i) p2 p4)), (0, .ref (q 0)), (1, .int p1), (2, .int p2), (3, .int p3), (4, .int p4), (5, .int p5), (7, .int (nI i))]) hx hb dX7_compare_203 hl (by decide) rfl (fun ls hl => ?_)
                                    refine lv_iinc (v := nI (i + 1)) (lv' := [(7, .int (nI (i + 1))), (6, .int (n + (fX7_one σ 0))), (10, .int 0), (9, .int (fX7_lives σ (nI i) p3 p4)), (8, .int (fX7_lives σ (nI i) p2 p4)), (0, .ref (q 0)), (1, .int p1), (2, .int p2), (3, .int p3), (4, .int p4), (5, .int p5)]) hx hb dX7_compare_205 hl (k := 10) rfl (nI_1 i) (by decide) rfl (fun ls hl => ?_)
                                    refine lv_goto (tgt := 47) hx hb dX7_compare_208 (by decide) ?_
                                    exact ih (i + 1) (n + (fX7_one σ 0)) (by omega) (by rw [hE, flX7_compare_47, if_neg c_80, if_neg c_85, if_pos c_91, if_pos c_114, if_neg c_128, if_neg c_152, if_pos c_176, if_neg c_181, if_neg c_186]) ls (lv_sub hl [5, 6, 7, 8, 9, 10, 0, 1] rfl)
                                  · refine lv_iconst (v := 1) hx hb dX7_compare_189 (by decide) ?_
                                    refine lv_goto (tgt := 199) hx hb dX7_compare_190 (by decide) ?_
                                    refine xc_i (va_runS (As := [.int 1]) (rest := [.int n]) ⟨hx, hb, hml, hown, hts⟩ (c_X7_one l dC dI cI cJ q σ 1) (va_cwS 1 hts (gS ml_X7_135 st_X7_one in_X7 co_X7_one) rfl rfl rfl (by decide +kernel) ⟨Nat.le_of_ble_eq_true rfl, Nat.le_of_ble_eq_true rfl⟩) (preS hK hP) rfl rfl hl.1 rfl (lv_room (Nat.le_of_ble_eq_true rfl)) dX7_compare_199 ⟨Nat.zero_le _, Nat.zero_le _⟩) ?_
                                    refine lv_iadd hx hb dX7_compare_202 ?_
                                    refine lv_istore (lv' := [(6, .int (n + (fX7_one σ 1))), (10, .int 0), (9, .int (fX7_lives σ (nI i) p3 p4)), (8, .int (fX7_lives σ (nI i) p2 p4)), (0, .ref (q 0)), (1, .int p1), (2, .int p2), (3, .int p3), (4, .int p4), (5, .int p5), (7, .int (nI i))]) hx hb dX7_compare_203 hl (by decide) rfl (fun ls hl => ?_)
                                    refine lv_iinc (v := nI (i + 1)) (lv' := [(7, .int (nI (i + 1))), (6, .int (n + (fX7_one σ 1))), (10, .int 0), (9, .int (fX7_lives σ (nI i) p3 p4)), (8, .int (fX7_lives σ (nI i) p2 p4)), (0, .ref (q 0)), (1, .int p1), (2, .int p2), (3, .int p3), (4, .int p4), (5, .int p5)]) hx hb dX7_compare_205 hl (k := 10) rfl (nI_1 i) (by decide) rfl (fun ls hl => ?_)
                                    refine lv_goto (tgt := 47) hx hb dX7_compare_208 (by decide) ?_
                                    exact ih (i + 1) (n + (fX7_one σ 1)) (by omega) (by rw [hE, flX7_compare_47, if_neg c_80, if_neg c_85, if_pos c_91, if_pos c_114, if_neg c_128, if_neg c_152, if_pos c_176, if_neg c_181, if_pos c_186]) ls (lv_sub hl [5, 6, 7, 8, 9, 10, 0, 1] rfl)
                            · refine lv_iload hx hb dX7_compare_155 (lv_at hl 1 rfl) ?_
                              refine lv_if_eq (tgt := 169) hx hb dX7_compare_157 (by decide) (fun c_157 => ?_) (fun c_157 => ?_)
                              · refine lv_iconst (v := 0) hx hb dX7_compare_169 (by decide) ?_
                                refine lv_goto (tgt := 199) hx hb dX7_compare_170 (by decide) ?_
                                refine xc_i (va_runS (As := [.int 0]) (rest := [.int n]) ⟨hx, hb, hml, hown, hts⟩ (c_X7_one l dC dI cI cJ q σ 0) (va_cwS 1 hts (gS ml_X7_135 st_X7_one in_X7 co_X7_one) rfl rfl rfl (by decide +kernel) ⟨Nat.le_of_ble_eq_true rfl, Nat.le_of_ble_eq_true rfl⟩) (preS hK hP) rfl rfl hl.1 rfl (lv_room (Nat.le_of_ble_eq_true rfl)) dX7_compare_199 ⟨Nat.zero_le _, Nat.zero_le _⟩) ?_
                                refine lv_iadd hx hb dX7_compare_202 ?_
                                refine lv_istore (lv' := [(6, .int (n + (fX7_one σ 0))), (10, .int 0), (9, .int (fX7_lives σ (nI i) p3 p4)), (8, .int (fX7_lives σ (nI i) p2 p4)), (0, .ref (q 0)), (1, .int p1), (2, .int p2), (3, .int p3), (4, .int p4), (5, .int p5), (7, .int (nI i))]) hx hb dX7_compare_203 hl (by decide) rfl (fun ls hl => ?_)
                                refine lv_iinc (v := nI (i + 1)) (lv' := [(7, .int (nI (i + 1))), (6, .int (n + (fX7_one σ 0))), (10, .int 0), (9, .int (fX7_lives σ (nI i) p3 p4)), (8, .int (fX7_lives σ (nI i) p2 p4)), (0, .ref (q 0)), (1, .int p1), (2, .int p2), (3, .int p3), (4, .int p4), (5, .int p5)]) hx hb dX7_compare_205 hl (k := 10) rfl (nI_1 i) (by decide) rfl (fun ls hl => ?_)
                                refine lv_goto (tgt := 47) hx hb dX7_compare_208 (by decide) ?_
                                exact ih (i + 1) (n + (fX7_one σ 0)) (by omega) (by rw [hE, flX7_compare_47, if_neg c_80, if_neg c_85, if_pos c_91, if_pos c_114, if_neg c_128, if_pos c_152, if_pos c_157]) ls (lv_sub hl [5, 6, 7, 8, 9, 10, 0, 1] rfl)
                              · refine lv_iload hx hb dX7_compare_160 (lv_at hl 2 rfl) ?_
                                refine lv_if_ne (tgt := 169) hx hb dX7_compare_162 (by decide) (fun c_162 => ?_) (fun c_162 => ?_)
                                · refine lv_iconst (v := 0) hx hb dX7_compare_169 (by decide) ?_
                                  refine lv_goto (tgt := 199) hx hb dX7_compare_170 (by decide) ?_
                                  refine xc_i (va_runS (As := [.int 0]) (rest := [.int n]) ⟨hx, hb, hml, hown, hts⟩ (c_X7_one l dC dI cI cJ q σ 0) (va_cwS 1 hts (gS ml_X7_135 st_X7_one in_X7 co_X7_one) rfl rfl rfl (by decide +kernel) ⟨Nat.le_of_ble_eq_true rfl, Nat.le_of_ble_eq_true rfl⟩) (preS hK hP) rfl rfl hl.1 rfl (lv_room (Nat.le_of_ble_eq_true rfl)) dX7_compare_199 ⟨Nat.zero_le _, Nat.zero_le _⟩) ?_
                                  refine lv_iadd hx hb dX7_compare_202 ?_
                                  refine lv_istore (lv' := [(6, .int (n + (fX7_one σ 0))), (10, .int 0), (9, .int (fX7_lives σ (nI i) p3 p4)), (8, .int (fX7_lives σ (nI i) p2 p4)), (0, .ref (q 0)), (1, .int p1), (2, .int p2), (3, .int p3), (4, .int p4), (5, .int p5), (7, .int (nI i))]) hx hb dX7_compare_203 hl (by decide) rfl (fun ls hl => ?_)
                                  refine lv_iinc (v := nI (i + 1)) (lv' := [(7, .int (nI (i + 1))), (6, .int (n + (fX7_one σ 0))), (10, .int 0), (9, .int (fX7_lives σ (nI i) p3 p4)), (8, .int (fX7_lives σ (nI i) p2 p4)), (0, .ref (q 0)), (1, .int p1), (2, .int p2), (3, .int p3), (4, .int p4), (5, .int p5)]) hx hb dX7_compare_205 hl (k := 10) rfl (nI_1 i) (by decide) rfl (fun ls hl => ?_)
                                  refine lv_goto (tgt := 47) hx hb dX7_compare_208 (by decide) ?_
                                  exact ih (i + 1) (n + (fX7_one σ 0)) (by omega) (by rw [hE, flX7_compare_47, if_neg c_80, if_neg c_85, if_pos c_91, if_pos c_114, if_neg c_128, if_pos c_152, if_neg c_157, if_neg c_162]) ls (lv_sub hl [5, 6, 7, 8, 9, 10, 0, 1] rfl)
                                · refine lv_iconst (v := 1) hx hb dX7_compare_165 (by decide) ?_
                                  refine lv_goto (tgt := 199) hx hb dX7_compare_166 (by decide) ?_
                                  refine xc_i (va_runS (As := [.int 1]) (rest := [.int n]) ⟨hx, hb, hml, hown, hts⟩ (c_X7_one l dC dI cI cJ q σ 1) (va_cwS 1 hts (gS ml_X7_135 st_X7_one in_X7 co_X7_one) rfl rfl rfl (by decide +kernel) ⟨Nat.le_of_ble_eq_true rfl, Nat.le_of_ble_eq_true rfl⟩) (preS hK hP) rfl rfl hl.1 rfl (lv_room (Nat.le_of_ble_eq_true rfl)) dX7_compare_199 ⟨Nat.zero_le _, Nat.zero_le _⟩) ?_
                                  refine lv_iadd hx hb dX7_compare_202 ?_
                                  refine lv_istore (lv' := [(6, .int (n + (fX7_one σ 1))), (10, .int 0), (9, .int (fX7_lives σ (nI i) p3 p4)), (8, .int (fX7_lives σ (nI i) p2 p4)), (0, .ref (q 0)), (1, .int p1), (2, .int p2), (3, .int p3), (4, .int p4), (5, .int p5), (7, .int (nI i))]) hx hb dX7_compare_203 hl (by decide) rfl (fun ls hl => ?_)
                                  refine lv_iinc (v := nI (i + 1)) (lv' := [(7, .int (nI (i + 1))), (6, .int (n + (fX7_one σ 1))), (10, .int 0), (9, .int (fX7_lives σ (nI i) p3 p4)), (8, .int (fX7_lives σ (nI i) p2 p4)), (0, .ref (q 0)), (1, .int p1), (2, .int p2), (3, .int p3), (4, .int p4), (5, .int p5)]) hx hb dX7_compare_205 hl (k := 10) rfl (nI_1 i) (by decide) rfl (fun ls hl => ?_)
                                  refine lv_goto (tgt := 47) hx hb dX7_compare_208 (by decide) ?_
                                  exact ih (i + 1) (n + (fX7_one σ 1)) (by omega) (by rw [hE, flX7_compare_47, if_neg c_80, if_neg c_85, if_pos c_91, if_pos c_114, if_neg c_128, if_pos c_152, if_neg c_157, if_pos c_162]) ls (lv_sub hl [5, 6, 7, 8, 9, 10, 0, 1] rfl)
                          · refine lv_iload hx hb dX7_compare_131 (lv_at hl 2 rfl) ?_
                            refine lv_if_eq (tgt := 145) hx hb dX7_compare_133 (by decide) (fun c_133 => ?_) (fun c_133 => ?_)
                            · refine lv_iconst (v := 0) hx hb dX7_compare_145 (by decide) ?_
                              refine lv_goto (tgt := 199) hx hb dX7_compare_146 (by decide) ?_
                              refine xc_i (va_runS (As := [.int 0]) (rest := [.int n]) ⟨hx, hb, hml, hown, hts⟩ (c_X7_one l dC dI cI cJ q σ 0) (va_cwS 1 hts (gS ml_X7_135 st_X7_one in_X7 co_X7_one) rfl rfl rfl (by decide +kernel) ⟨Nat.le_of_ble_eq_true rfl, Nat.le_of_ble_eq_true rfl⟩) (preS hK hP) rfl rfl hl.1 rfl (lv_room (Nat.le_of_ble_eq_true rfl)) dX7_compare_199 ⟨Nat.zero_le _, Nat.zero_le _⟩) ?_
                              refine lv_iadd hx hb dX7_compare_202 ?_
                              refine lv_istore (lv' := [(6, .int (n + (fX7_one σ 0))), (10, .int 0), (9, .int (fX7_lives σ (nI i) p3 p4)), (8, .int (fX7_lives σ (nI i) p2 p4)), (0, .ref (q 0)), (1, .int p1), (2, .int p2), (3, .int p3), (4, .int p4), (5, .int p5), (7, .int (nI i))]) hx hb dX7_compare_203 hl (by decide) rfl (fun ls hl => ?_)
                              refine lv_iinc (v := nI (i + 1)) (lv' := [(7, .int (nI (i + 1))), (6, .int (n + (fX7_one σ 0))), (10, .int 0), (9, .int (fX7_lives σ (nI i) p3 p4)), (8, .int (fX7_lives σ (nI i) p2 p4)), (0, .ref (q 0)), (1, .int p1), (2, .int p2), (3, .int p3), (4, .int p4), (5, .int p5)]) hx hb dX7_compare_205 hl (k := 10) rfl (nI_1 i) (by decide) rfl (fun ls hl => ?_)
                              refine lv_goto (tgt := 47) hx hb dX7_compare_208 (by decide) ?_
                              exact ih (i + 1) (n + (fX7_one σ 0)) (by omega) (by rw [hE, flX7_compare_47, if_neg c_80, if_neg c_85, if_pos c_91, if_pos c_114, if_pos c_128, if_pos c_133]) ls (lv_sub hl [5, 6, 7, 8, 9, 10, 0, 1] rfl)
                            · refine lv_iload hx hb dX7_compare_136 (lv_at hl 1 rfl) ?_
                              refine lv_if_eq (tgt := 145) hx hb dX7_compare_138 (by decide) (fun c_138 => ?_) (fun c_138 => ?_)
                              · refine lv_iconst (v := 0) hx hb dX7_compare_145 (by decide) ?_
                                refine lv_goto (tgt := 199) hx hb dX7_compare_146 (by decide) ?_
                                refine xc_i (va_runS (As := [.int 0]) (rest := [.int n]) ⟨hx, hb, hml, hown, hts⟩ (c_X7_one l dC dI cI cJ q σ 0) (va_cwS 1 hts (gS ml_X7_135 st_X7_one in_X7 co_X7_one) rfl rfl rfl (by decide +kernel) ⟨Nat.le_of_ble_eq_true rfl, Nat.le_of_ble_eq_true rfl⟩) (preS hK hP) rfl rfl hl.1 rfl (lv_room (Nat.le_of_ble_eq_true rfl)) dX7_compare_199 ⟨Nat.zero_le _, Nat.zero_le _⟩) ?_
                                refine lv_iadd hx hb dX7_compare_202 ?_
                                refine lv_istore (lv' := [(6, .int (n + (fX7_one σ 0))), (10, .int 0), (9, .int (fX7_lives σ (nI i) p3 p4)), (8, .int (fX7_lives σ (nI i) p2 p4)), (0, .ref (q 0)), (1, .int p1), (2, .int p2), (3, .int p3), (4, .int p4), (5, .int p5), (7, .int (nI i))]) hx hb dX7_compare_203 hl (by decide) rfl (fun ls hl => ?_)
                                refine lv_iinc (v := nI (i + 1)) (lv' := [(7, .int (nI (i + 1))), (6, .int (n + (fX7_one σ 0))), (10, .int 0), (9, .int (fX7_lives σ (nI i) p3 p4)), (8, .int (fX7_lives σ (nI i) p2 p4)), (0, .ref (q 0)), (1, .int p1), (2, .int p2), (3, .int p3), (4, .int p4), (5, .int p5)]) hx hb dX7_compare_205 hl (k := 10) rfl (nI_1 i) (by decide) rfl (fun ls hl => ?_)
                                refine lv_goto (tgt := 47) hx hb dX7_compare_208 (by decide) ?_
                                exact ih (i + 1) (n + (fX7_one σ 0)) (by omega) (by rw [hE, flX7_compare_47, if_neg c_80, if_neg c_85, if_pos c_91, if_pos c_114, if_pos c_128, if_neg c_133, if_pos c_138]) ls (lv_sub hl [5, 6, 7, 8, 9, 10, 0, 1] rfl)
                              · refine lv_iconst (v := 1) hx hb dX7_compare_141 (by decide) ?_
                                refine lv_goto (tgt := 199) hx hb dX7_compare_142 (by decide) ?_
                                refine xc_i (va_runS (As := [.int 1]) (rest := [.int n]) ⟨hx, hb, hml, hown, hts⟩ (c_X7_one l dC dI cI cJ q σ 1) (va_cwS 1 hts (gS ml_X7_135 st_X7_one in_X7 co_X7_one) rfl rfl rfl (by decide +kernel) ⟨Nat.le_of_ble_eq_true rfl, Nat.le_of_ble_eq_true rfl⟩) (preS hK hP) rfl rfl hl.1 rfl (lv_room (Nat.le_of_ble_eq_true rfl)) dX7_compare_199 ⟨Nat.zero_le _, Nat.zero_le _⟩) ?_
                                refine lv_iadd hx hb dX7_compare_202 ?_
                                refine lv_istore (lv' := [(6, .int (n + (fX7_one σ 1))), (10, .int 0), (9, .int (fX7_lives σ (nI i) p3 p4)), (8, .int (fX7_lives σ (nI i) p2 p4)), (0, .ref (q 0)), (1, .int p1), (2, .int p2), (3, .int p3), (4, .int p4), (5, .int p5), (7, .int (nI i))]) hx hb dX7_compare_203 hl (by decide) rfl (fun ls hl => ?_)
                                refine lv_iinc (v := nI (i + 1)) (lv' := [(7, .int (nI (i + 1))), (6, .int (n + (fX7_one σ 1))), (10, .int 0), (9, .int (fX7_lives σ (nI i) p3 p4)), (8, .int (fX7_lives σ (nI i) p2 p4)), (0, .ref (q 0)), (1, .int p1), (2, .int p2), (3, .int p3), (4, .int p4), (5, .int p5)]) hx hb dX7_compare_205 hl (k := 10) rfl (nI_1 i) (by decide) rfl (fun ls hl => ?_)
                                refine lv_goto (tgt := 47) hx hb dX7_compare_208 (by decide) ?_
                                exact ih (i + 1) (n + (fX7_one σ 1)) (by omega) (by rw [hE, flX7_compare_47, if_neg c_80, if_neg c_85, if_pos c_91, if_pos c_114, if_pos c_128, if_neg c_133, if_neg c_138]) ls (lv_sub hl [5, 6, 7, 8, 9, 10, 0, 1] rfl)
                        · refine lv_iconst (v := 1) hx hb dX7_compare_117 (by decide) ?_
                          refine lv_goto (tgt := 122) hx hb dX7_compare_118 (by decide) ?_
                          refine lv_istore (lv' := [(10, .int 1), (9, .int (fX7_lives σ (nI i) p3 p4)), (8, .int (fX7_lives σ (nI i) p2 p4)), (0, .ref (q 0)), (1, .int p1), (2, .int p2), (3, .int p3), (4, .int p4), (5, .int p5), (7, .int (nI i)), (6, .int n)]) hx hb dX7_compare_122 hl (by decide) rfl (fun ls hl => ?_)
                          refine lv_iload hx hb dX7_compare_124 (lv_at hl 10 rfl) ?_
                          refine lv_iload hx hb dX7_compare_126 (lv_at hl 8 rfl) ?_
                          refine lv_if_ne (tgt := 149) hx hb dX7_compare_128 (by decide) (fun c_128 => ?_) (fun c_128 => ?_)
                          · refine lv_iload hx hb dX7_compare_149 (lv_at hl 8 rfl) ?_
                            refine lv_iconst (v := 1) hx hb dX7_compare_151 (by decide) ?_
                            refine lv_icmp_ne (tgt := 173) hx hb dX7_compare_152 (by decide) (fun c_152 => ?_) (fun c_152 => ?_)
                            · refine lv_iload hx hb dX7_compare_173 (lv_at hl 8 rfl) ?_
                              refine lv_iconst (v := 2) hx hb dX7_compare_175 (by decide) ?_
                              refine lv_icmp_ne (tgt := 197) hx hb dX7_compare_176 (by decide) (fun c_176 => ?_) (fun c_176 => ?_)
                              · refine lv_iload hx hb dX7_compare_197 (lv_at hl 0 rfl) ?_
                                refine xc_i (va_runS (As := [.int 1]) (rest := [.int n]) ⟨hx, hb, hml, hown, hts⟩ (c_X7_one l dC dI cI cJ q σ 1) (va_cwS 1 hts (gS ml_X7_135 st_X7_one in_X7 co_X7_one) rfl rfl rfl (by decide +kernel) ⟨Nat.le_of_ble_eq_true rfl, Nat.le_of_ble_eq_true rfl⟩) (preS hK hP) rfl rfl hl.1 rfl (lv_room (Nat.le_of_ble_eq_true rfl)) dX7_compare_199 ⟨Nat.zero_le _, Nat.zero_le _⟩) ?_
                                refine lv_iadd hx hb dX7_compare_202 ?_
                                refine lv_istore (lv' := [(6, .int (n + (fX7_one σ 1))), (10, .int 1), (9, .int (fX7_lives σ (nI i) p3 p4)), (8, .int (fX7_lives σ (nI i) p2 p4)), (0, .ref (q 0)), (1, .int p1), (2, .int p2), (3, .int p3), (4, .int p4), (5, .int p5), (7, .int (nI i))]) hx hb dX7_compare_203 hl (by decide) rfl (fun ls hl => ?_)
                                refine lv_iinc (v := nI (i + 1)) (lv' := [(7, .int (nI (i + 1))), (6, .int (n + (fX7_one σ 1))), (10, .int 1), (9, .int (fX7_lives σ (nI i) p3 p4)), (8, .int (fX7_lives σ (nI i) p2 p4)), (0, .ref (q 0)), (1, .int p1), (2, .int p2), (3, .int p3), (4, .int p4), (5, .int p5)]) hx hb dX7_compare_205 hl (k := 10) rfl (nI_1 i) (by decide) rfl (fun ls hl => ?_)
                                refine lv_goto (tgt := 47) hx hb dX7_compare_208 (by decide) ?_
                                exact ih (i + 1) (n + (fX7_one σ 1)) (by omega) (by rw [hE, flX7_compare_47, if_neg c_80, if_neg c_85, if_pos c_91, if_neg c_114, if_neg c_128, if_neg c_152, if_neg c_176]) ls (lv_sub hl [5, 6, 7, 8, 9, 10, 0, 1] rfl)
                              · refine lv_iload hx hb dX7_compare_179 (lv_at hl 2 rfl) ?_
                                refine lv_if_eq (tgt := 193) hx hb dX7_compare_181 (by decide) (fun c_181 => ?_) (fun c_181 => ?_)
                                · refine lv_iconst (v := 0) hx hb dX7_compare_193 (by decide) ?_
                                  refine lv_goto (tgt := 199) hx hb dX7_compare_194 (by decide) ?_
                                  refine xc_i (va_runS (As := [.int 0]) (rest := [.int n]) ⟨hx, hb, hml, hown, hts⟩ (c_X7_one l dC dI cI cJ q σ 0) (va_cwS 1 hts (gS ml_X7_135 st_X7_one in_X7 co_X7_one) rfl rfl rfl (by decide +kernel) ⟨Nat.le_of_ble_eq_true rfl, Nat.le_of_ble_eq_true rfl⟩) (preS hK hP) rfl rfl hl.1 rfl (lv_room (Nat.le_of_ble_eq_true rfl)) dX7_compare_199 ⟨Nat.zero_le _, Nat.zero_le _⟩) ?_
                                  refine lv_iadd hx hb dX7_compare_202 ?_
                                  refine lv_istore (lv' := [(6, .int (n + (fX7_one σ 0))), (10, .int 1), (9, .int (fX7_lives σ (nI i) p3 p4)), (8, .int (fX7_lives σ (nI i) p2 p4)), (0, .ref (q 0)), (1, .int p1), (2, .int p2), (3, .int p3), (4, .int p4), (5, .int p5), (7, .int (nI i))]) hx hb dX7_compare_203 hl (by decide) rfl (fun ls hl => ?_)
                                  refine lv_iinc (v := nI (i + 1)) (lv' := [(7, .int (nI (i + 1))), (6, .int (n + (fX7_one σ 0))), (10, .int 1), (9, .int (fX7_lives σ (nI i) p3 p4)), (8, .int (fX7_lives σ (nI i) p2 p4)), (0, .ref (q 0)), (1, .int p1), (2, .int p2), (3, .int p3), (4, .int p4), (5, .int p5)]) hx hb dX7_compare_205 hl (k := 10) rfl (nI_1 i) (by decide) rfl (fun ls hl => ?_)
                                  refine lv_goto (tgt := 47) hx hb dX7_compare_208 (by decide) ?_
                                  exact ih (i + 1) (n + (fX7_one σ 0)) (by omega) (by rw [hE, flX7_compare_47, if_neg c_80, if_neg c_85, if_pos c_91, if_neg c_114, if_neg c_128, if_neg c_152, if_pos c_176, if_pos c_181]) ls (lv_sub hl [5, 6, 7, 8, 9, 10, 0, 1] rfl)
                                · refine lv_iload hx hb dX7_compare_184 (lv_at hl 1 rfl) ?_
                                  refine lv_if_ne (tgt := 193) hx hb dX7_compare_186 (by decide) (fun c_186 => ?_) (fun c_186 => ?_)
                                  · refine lv_iconst (v := 0) hx hb dX7_compare_193 (by decide) ?_
                                    refine lv_goto (tgt := 199) hx hb dX7_compare_194 (by decide) ?_
                                    refine xc_i (va_runS (As := [.int 0]) (rest := [.int n]) ⟨hx, hb, hml, hown, hts⟩ (c_X7_one l dC dI cI cJ q σ 0) (va_cwS 1 hts (gS ml_X7_135 st_X7_one in_X7 co_X7_one) rfl rfl rfl (by decide +kernel) ⟨Nat.le_of_ble_eq_true rfl, Nat.le_of_ble_eq_true rfl⟩) (preS hK hP) rfl rfl hl.1 rfl (lv_room (Nat.le_of_ble_eq_true rfl)) dX7_compare_199 ⟨Nat.zero_le _, Nat.zero_le _⟩) ?_
                                    refine lv_iadd hx hb dX7_compare_202 ?_
                                    refine lv_istore (lv' := [(6, .int (n + (fX7_one σ 0))), (10, .int 1), (9, .int (fX7_lives σ (nI i) p3 p4)), (8, .int (fX7_lives σ (nI i) p2 p4)), (0, .ref (q 0)), (1, .int p1), (2, .int p2), (3, .int p3), (4, .int p4), (5, .int p5), (7, .int (nI i))]) hx hb dX7_compare_203 hl (by decide) rfl (fun ls hl => ?_)
                                    refine lv_iinc (v := nI (i + 1)) (lv' := [(7, .int (nI (i + 1))), (6, .int (n + (fX7_one σ 0))), (10, .int 1), (9, .int (fX7_lives σ (nI i) p3 p4)), (8, .int (fX7_lives σ (nI i) p2 p4)), (0, .ref (q 0)), (1, .int p1), (2, .int p2), (3, .int p3), (4, .int p4), (5, .int p5)]) hx hb dX7_compare_205 hl (k := 10) rfl (nI_1 i) (by decide) rfl (fun ls hl => ?_)
                                    refine lv_goto (tgt := 47) hx hb dX7_compare_208 (by decide) ?_
                                    exact ih (i + 1) (n + (fX7_one σ 0)) (by omega) (by rw [hE, flX7_compare_47, if_neg c_80, if_neg c_85, if_pos c_91, if_neg c_114, if_neg c_128, if_neg c_152, if_pos c_176, if_neg c_181, if_neg c_186]) ls (lv_sub hl [5, 6, 7, 8, 9, 10, 0, 1] rfl)
                                  · refine lv_iconst (v := 1) hx hb dX7_compare_189 (by decide) ?_
                                    refine lv_goto (tgt := 199) hx hb dX7_compare_190 (by decide) ?_
                                    refine xc_i (va_runS (As := [.int 1]) (rest := [.int n]) ⟨hx, hb, hml, hown, hts⟩ (c_X7_one l dC dI cI cJ q σ 1) (va_cwS 1 hts (gS ml_X7_135 st_X7_one in_X7 co_X7_one) rfl rfl rfl (by decide +kernel) ⟨Nat.le_of_ble_eq_true rfl, Nat.le_of_ble_eq_true rfl⟩) (preS hK hP) rfl rfl hl.1 rfl (lv_room (Nat.le_of_ble_eq_true rfl)) dX7_compare_199 ⟨Nat.zero_le _, Nat.zero_le _⟩) ?_
                                    refine lv_iadd hx hb dX7_compare_202 ?_
                                    refine lv_istore (lv' := [(6, .int (n + (fX7_one σ 1))), (10, .int 1), (9, .int (fX7_lives σ (nI i) p3 p4)), (8, .int (fX7_lives σ (nI i) p2 p4)), (0, .ref (q 0)), (1, .int p1), (2, .int p2), (3, .int p3), (4, .int p4), (5, .int p5), (7, .int (nI i))]) hx hb dX7_compare_203 hl (by decide) rfl (fun ls hl => ?_)
                                    refine lv_iinc (v := nI (i + 1)) (lv' := [(7, .int (nI (i + 1))), (6, .int (n + (fX7_one σ 1))), (10, .int 1), (9, .int (fX7_lives σ (nI i) p3 p4)), (8, .int (fX7_lives σ (nI i) p2 p4)), (0, .ref (q 0)), (1, .int p1), (2, .int p2), (3, .int p3), (4, .int p4), (5, .int p5)]) hx hb dX7_compare_205 hl (k := 10) rfl (nI_1 i) (by decide) rfl (fun ls hl => ?_)
                                    refine lv_goto (tgt := 47) hx hb dX7_compare_208 (by decide) ?_
                                    exact ih (i + 1) (n + (fX7_one σ 1)) (by omega) (by rw [hE, flX7_compare_47, if_neg c_80, if_neg c_85, if_pos c_91, if_neg c_114, if_neg c_128, if_neg c_152, if_pos c_176, if_neg c_181, if_pos c_186]) ls (lv_sub hl [5, 6, 7, 8, 9, 10, 0, 1] rfl)
                            · refine lv_iload hx hb dX7_compare_155 (lv_at hl 1 rfl) ?_
                              refine lv_if_eq (tgt := 169) hx hb dX7_compare_157 (by decide) (fun c_157 => ?_) (fun c_157 => ?_)
                              · refine lv_iconst (v := 0) hx hb dX7_compare_169 (by decide) ?_
                                refine lv_goto (tgt := 199) hx hb dX7_compare_170 (by decide) ?_
                                refine xc_i (va_runS (As := [.int 0]) (rest := [.int n]) ⟨hx, hb, hml, hown, hts⟩ (c_X7_one l dC dI cI cJ q σ 0) (va_cwS 1 hts (gS ml_X7_135 st_X7_one in_X7 co_X7_one) rfl rfl rfl (by decide +kernel) ⟨Nat.le_of_ble_eq_true rfl, Nat.le_of_ble_eq_true rfl⟩) (preS hK hP) rfl rfl hl.1 rfl (lv_room (Nat.le_of_ble_eq_true rfl)) dX7_compare_199 ⟨Nat.zero_le _, Nat.zero_le _⟩) ?_
                                refine lv_iadd hx hb dX7_compare_202 ?_
                                refine lv_istore (lv' := [(6, .int (n + (fX7_one σ 0))), (10, .int 1), (9, .int (fX7_lives σ (nI i) p3 p4)), (8, .int (fX7_lives σ (nI i) p2 p4)), (0, .ref (q 0)), (1, .int p1), (2, .int p2), (3, .int p3), (4, .int p4), (5, .int p5), (7, .int (nI i))]) hx hb dX7_compare_203 hl (by decide) rfl (fun ls hl => ?_)
                                refine lv_iinc (v := nI (i + 1)) (lv' := [(7, .int (nI (i + 1))), (6, .int (n + (fX7_one σ 0))), (10, .int 1), (9, .int (fX7_lives σ (nI i) p3 p4)), (8, .int (fX7_lives σ (nI i) p2 p4)), (0, .ref (q 0)), (1, .int p1), (2, .int p2), (3, .int p3), (4, .int p4), (5, .int p5)]) hx hb dX7_compare_205 hl (k := 10) rfl (nI_1 i) (by decide) rfl (fun ls hl => ?_)
                                refine lv_goto (tgt := 47) hx hb dX7_compare_208 (by decide) ?_
                                exact ih (i + 1) (n + (fX7_one σ 0)) (by omega) (by rw [hE, flX7_compare_47, if_neg c_80, if_neg c_85, if_pos c_91, if_neg c_114, if_neg c_128, if_pos c_152, if_pos c_157]) ls (lv_sub hl [5, 6, 7, 8, 9, 10, 0, 1] rfl)
                              · refine lv_iload hx hb dX7_compare_160 (lv_at hl 2 rfl) ?_
                                refine lv_if_ne (tgt := 169) hx hb dX7_compare_162 (by decide) (fun c_162 => ?_) (fun c_162 => ?_)
                                · refine lv_iconst (v := 0) hx hb dX7_compare_169 (by decide) ?_
                                  refine lv_goto (tgt := 199) hx hb dX7_compare_170 (by decide) ?_
                                  refine xc_i (va_runS (As := [.int 0]) (rest := [.int n]) ⟨hx, hb, hml, hown, hts⟩ (c_X7_one l dC dI cI cJ q σ 0) (va_cwS 1 hts (gS ml_X7_135 st_X7_one in_X7 co_X7_one) rfl rfl rfl (by decide +kernel) ⟨Nat.le_of_ble_eq_true rfl, Nat.le_of_ble_eq_true rfl⟩) (preS hK hP) rfl rfl hl.1 rfl (lv_room (Nat.le_of_ble_eq_true rfl)) dX7_compare_199 ⟨Nat.zero_le _, Nat.zero_le _⟩) ?_
                                  refine lv_iadd hx hb dX7_compare_202 ?_
                                  refine lv_istore (lv' := [(6, .int (n + (fX7_one σ 0))), (10, .int 1), (9, .int (fX7_lives σ (nI i) p3 p4)), (8, .int (fX7_lives σ (nI i) p2 p4)), (0, .ref (q 0)), (1, .int p1), (2, .int p2), (3, .int p3), (4, .int p4), (5, .int p5), (7, .int (nI i))]) hx hb dX7_compare_203 hl (by decide) rfl (fun ls hl => ?_)
                                  refine lv_iinc (v := nI (i + 1)) (lv' := [(7, .int (nI (i + 1))), (6, .int (n + (fX7_one σ 0))), (10, .int 1), (9, .int (fX7_lives σ (nI i) p3 p4)), (8, .int (fX7_lives σ (nI i) p2 p4)), (0, .ref (q 0)), (1, .int p1), (2, .int p2), (3, .int p3), (4, .int p4), (5, .int p5)]) hx hb dX7_compare_205 hl (k := 10) rfl (nI_1 i) (by decide) rfl (fun ls hl => ?_)
                                  refine lv_goto (tgt := 47) hx hb dX7_compare_208 (by decide) ?_
                                  exact ih (i + 1) (n + (fX7_one σ 0)) (by omega) (by rw [hE, flX7_compare_47, if_neg c_80, if_neg c_85, if_pos c_91, if_neg c_114, if_neg c_128, if_pos c_152, if_neg c_157, if_neg c_162]) ls (lv_sub hl [5, 6, 7, 8, 9, 10, 0, 1] rfl)
                                · refine lv_iconst (v := 1) hx hb dX7_compare_165 (by decide) ?_
                                  refine lv_goto (tgt := 199) hx hb dX7_compare_166 (by decide) ?_
                                  refine xc_i (va_runS (As := [.int 1]) (rest := [.int n]) ⟨hx, hb, hml, hown, hts⟩ (c_X7_one l dC dI cI cJ q σ 1) (va_cwS 1 hts (gS ml_X7_135 st_X7_one in_X7 co_X7_one) rfl rfl rfl (by decide +kernel) ⟨Nat.le_of_ble_eq_true rfl, Nat.le_of_ble_eq_true rfl⟩) (preS hK hP) rfl rfl hl.1 rfl (lv_room (Nat.le_of_ble_eq_true rfl)) dX7_compare_199 ⟨Nat.zero_le _, Nat.zero_le _⟩) ?_
                                  refine lv_iadd hx hb dX7_compare_202 ?_
                                  refine lv_istore (lv' := [(6, .int (n + (fX7_one σ 1))), (10, .int 1), (9, .int (fX7_lives σ (nI i) p3 p4)), (8, .int (fX7_lives σ (nI i) p2 p4)), (0, .ref (q 0)), (1, .int p1), (2, .int p2), (3, .int p3), (4, .int p4), (5, .int p5), (7, .int (nI i))]) hx hb dX7_compare_203 hl (by decide) rfl (fun ls hl => ?_)
                                  refine lv_iinc (v := nI (i + 1)) (lv' := [(7, .int (nI (i + 1))), (6, .int (n + (fX7_one σ 1))), (10, .int 1), (9, .int (fX7_lives σ (nI i) p3 p4)), (8, .int (fX7_lives σ (nI i) p2 p4)), (0, .ref (q 0)), (1, .int p1), (2, .int p2), (3, .int p3), (4, .int p4), (5, .int p5)]) hx hb dX7_compare_205 hl (k := 10) rfl (nI_1 i) (by decide) rfl (fun ls hl => ?_)
                                  refine lv_goto (tgt := 47) hx hb dX7_compare_208 (by decide) ?_
                                  exact ih (i + 1) (n + (fX7_one σ 1)) (by omega) (by rw [hE, flX7_compare_47, if_neg c_80, if_neg c_85, if_pos c_91, if_neg c_114, if_neg c_128, if_pos c_152, if_neg c_157, if_pos c_162]) ls (lv_sub hl [5, 6, 7, 8, 9, 10, 0, 1] rfl)
                          · refine lv_iload hx hb dX7_compare_131 (lv_at hl 2 rfl) ?_
                            refine lv_if_eq (tgt := 145) hx hb dX7_compare_133 (by decide) (fun c_133 => ?_) (fun c_133 => ?_)
                            · refine lv_iconst (v := 0) hx hb dX7_compare_145 (by decide) ?_
                              refine lv_goto (tgt := 199) hx hb dX7_compare_146 (by decide) ?_
                              refine xc_i (va_runS (As := [.int 0]) (rest := [.int n]) ⟨hx, hb, hml, hown, hts⟩ (c_X7_one l dC dI cI cJ q σ 0) (va_cwS 1 hts (gS ml_X7_135 st_X7_one in_X7 co_X7_one) rfl rfl rfl (by decide +kernel) ⟨Nat.le_of_ble_eq_true rfl, Nat.le_of_ble_eq_true rfl⟩) (preS hK hP) rfl rfl hl.1 rfl (lv_room (Nat.le_of_ble_eq_true rfl)) dX7_compare_199 ⟨Nat.zero_le _, Nat.zero_le _⟩) ?_
                              refine lv_iadd hx hb dX7_compare_202 ?_
                              refine lv_istore (lv' := [(6, .int (n + (fX7_one σ 0))), (10, .int 1), (9, .int (fX7_lives σ (nI i) p3 p4)), (8, .int (fX7_lives σ (nI i) p2 p4)), (0, .ref (q 0)), (1, .int p1), (2, .int p2), (3, .int p3), (4, .int p4), (5, .int p5), (7, .int (nI i))]) hx hb dX7_compare_203 hl (by decide) rfl (fun ls hl => ?_)
                              refine lv_iinc (v := nI (i + 1)) (lv' := [(7, .int (nI (i + 1))), (6, .int (n + (fX7_one σ 0))), (10, .int 1), (9, .int (fX7_lives σ (nI i) p3 p4)), (8, .int (fX7_lives σ (nI i) p2 p4)), (0, .ref (q 0)), (1, .int p1), (2, .int p2), (3, .int p3), (4, .int p4), (5, .int p5)]) hx hb dX7_compare_205 hl (k := 10) rfl (nI_1 i) (by decide) rfl (fun ls hl => ?_)
                              refine lv_goto (tgt := 47) hx hb dX7_compare_208 (by decide) ?_
                              exact ih (i + 1) (n + (fX7_one σ 0)) (by omega) (by rw [hE, flX7_compare_47, if_neg c_80, if_neg c_85, if_pos c_91, if_neg c_114, if_pos c_128, if_pos c_133]) ls (lv_sub hl [5, 6, 7, 8, 9, 10, 0, 1] rfl)
                            · refine lv_iload hx hb dX7_compare_136 (lv_at hl 1 rfl) ?_
                              refine lv_if_eq (tgt := 145) hx hb dX7_compare_138 (by decide) (fun c_138 => ?_) (fun c_138 => ?_)
                              · refine lv_iconst (v := 0) hx hb dX7_compare_145 (by decide) ?_
                                refine lv_goto (tgt := 199) hx hb dX7_compare_146 (by decide) ?_
                                refine xc_i (va_runS (As := [.int 0]) (rest := [.int n]) ⟨hx, hb, hml, hown, hts⟩ (c_X7_one l dC dI cI cJ q σ 0) (va_cwS 1 hts (gS ml_X7_135 st_X7_one in_X7 co_X7_one) rfl rfl rfl (by decide +kernel) ⟨Nat.le_of_ble_eq_true rfl, Nat.le_of_ble_eq_true rfl⟩) (preS hK hP) rfl rfl hl.1 rfl (lv_room (Nat.le_of_ble_eq_true rfl)) dX7_compare_199 ⟨Nat.zero_le _, Nat.zero_le _⟩) ?_
                                refine lv_iadd hx hb dX7_compare_202 ?_
                                refine lv_istore (lv' := [(6, .int (n + (fX7_one σ 0))), (10, .int 1), (9, .int (fX7_lives σ (nI i) p3 p4)), (8, .int (fX7_lives σ (nI i) p2 p4)), (0, .ref (q 0)), (1, .int p1), (2, .int p2), (3, .int p3), (4, .int p4), (5, .int p5), (7, .int (nI i))]) hx hb dX7_compare_203 hl (by decide) rfl (fun ls hl => ?_)
                                refine lv_iinc (v := nI (i + 1)) (lv' := [(7, .int (nI (i + 1))), (6, .int (n + (fX7_one σ 0))), (10, .int 1), (9, .int (fX7_lives σ (nI i) p3 p4)), (8, .int (fX7_lives σ (nI i) p2 p4)), (0, .ref (q 0)), (1, .int p1), (2, .int p2), (3, .int p3), (4, .int p4), (5, .int p5)]) hx hb dX7_compare_205 hl (k := 10) rfl (nI_1 i) (by decide) rfl (fun ls hl => ?_)
                                refine lv_goto (tgt := 47) hx hb dX7_compare_208 (by decide) ?_
                                exact ih (i + 1) (n + (fX7_one σ 0)) (by omega) (by rw [hE, flX7_compare_47, if_neg c_80, if_neg c_85, if_pos c_91, if_neg c_114, if_pos c_128, if_neg c_133, if_pos c_138]) ls (lv_sub hl [5, 6, 7, 8, 9, 10, 0, 1] rfl)
                              · refine lv_iconst (v := 1) hx hb dX7_compare_141 (by decide) ?_
                                refine lv_goto (tgt := 199) hx hb dX7_compare_142 (by decide) ?_
                                refine xc_i (va_runS (As := [.int 1]) (rest := [.int n]) ⟨hx, hb, hml, hown, hts⟩ (c_X7_one l dC dI cI cJ q σ 1) (va_cwS 1 hts (gS ml_X7_135 st_X7_one in_X7 co_X7_one) rfl rfl rfl (by decide +kernel) ⟨Nat.le_of_ble_eq_true rfl, Nat.le_of_ble_eq_true rfl⟩) (preS hK hP) rfl rfl hl.1 rfl (lv_room (Nat.le_of_ble_eq_true rfl)) dX7_compare_199 ⟨Nat.zero_le _, Nat.zero_le _⟩) ?_
                                refine lv_iadd hx hb dX7_compare_202 ?_
                                refine lv_istore (lv' := [(6, .int (n + (fX7_one σ 1))), (10, .int 1), (9, .int (fX7_lives σ (nI i) p3 p4)), (8, .int (fX7_lives σ (nI i) p2 p4)), (0, .ref (q 0)), (1, .int p1), (2, .int p2), (3, .int p3), (4, .int p4), (5, .int p5), (7, .int (nI i))]) hx hb dX7_compare_203 hl (by decide) rfl (fun ls hl => ?_)
                                refine lv_iinc (v := nI (i + 1)) (lv' := [(7, .int (nI (i + 1))), (6, .int (n + (fX7_one σ 1))), (10, .int 1), (9, .int (fX7_lives σ (nI i) p3 p4)), (8, .int (fX7_lives σ (nI i) p2 p4)), (0, .ref (q 0)), (1, .int p1), (2, .int p2), (3, .int p3), (4, .int p4), (5, .int p5)]) hx hb dX7_compare_205 hl (k := 10) rfl (nI_1 i) (by decide) rfl (fun ls hl => ?_)
                                refine lv_goto (tgt := 47) hx hb dX7_compare_208 (by decide) ?_
                                exact ih (i + 1) (n + (fX7_one σ 1)) (by omega) (by rw [hE, flX7_compare_47, if_neg c_80, if_neg c_85, if_pos c_91, if_neg c_114, if_pos c_128, if_neg c_133, if_neg c_138]) ls (lv_sub hl [5, 6, 7, 8, 9, 10, 0, 1] rfl)
            exact loop_47 ((σ.2.1 1).toNatClampNeg) 0 0 (by rw [Nat.zero_add]) (by rw [fX7_compare, if_neg c_4, if_neg c_11, if_neg c_18, if_neg c_26, if_neg c_36]) ls (lv_sub hl [2, 3, 4, 5, 6, 7, 0, 1] rfl)
          · refine lv_iconst (v := (-1)) hx hb dX7_compare_39 (by decide) ?_
            exact W.iret (v := (-1)) hx hb hr (fun t ht hW => ⟨_, rfl, (by rw [fX7_compare, if_neg c_4, if_neg c_11, if_neg c_18, if_neg c_26, if_pos c_36]), ht⟩) (fun _ h => absurd h List.not_mem_nil) dX7_compare_40

def flX7_count_69 (σ : St) (p1 : Int32) : Nat → Nat → Int32 → Int32
  | 0, i, n => n
  | k + 1, i, n => (if (σ.1 20 i) = 2001 then flX7_count_69 σ p1 k (i + 1) (n + (fX7_one σ 0)) else flX7_count_69 σ p1 k (i + 1) (n + (fX7_one σ 1)))
def fX7_count (σ : St) (p1 : Int32) : Int32 :=
  (if p1 = 0 then σ.2.1 0 else (if p1 = 1 then σ.2.1 1 else (if p1 = 2 then σ.2.1 2 else (if p1 = 3 then σ.2.1 3 else (if p1 = 4 then σ.2.1 4 else (if p1 = 5 then flX7_count_69 σ p1 ((40 : Int32).toNatClampNeg) 0 0 else (-1)))))))
set_option maxHeartbeats 4000000 in
set_option maxRecDepth 100000 in
theorem c_X7_count (l : Launch) (dC : Nat → ClassId) (dI : Nat → Nat → Nat) (cI cJ : ClassId) (q : Nat → Nat) (σ : St) (p1 : Int32) : Met l yX7_count (.code yX7_count cX7_count 4 (some .int) :: tb) { frames := 1, cells := 0, slots := 0, locals := 20 } (Pu (dC, dI) (tyC cI cJ) (wM cI cJ q σ) [.ref (q 0), .int p1]) (vp_Si (fun r => r = fX7_count σ p1)) 0 0 (fun _ => False) := by
  refine Met.ofW (cc := cX7_count) (maxL := 4) (ret := (some .int)) (by decide) rfl ?_
  intro p e s m args below meth c s₁ B hml hv
  obtain ⟨rfl, hP, hK⟩ := hv
  have hx := B.exec
  have hb := B.bytes
  have hr := B.returns
  have hts0 := atoms_spec (ws := .code yX7_count cX7_count 4 (some .int) :: tb) B.pre
  have hts : ∀ w ∈ tb, w.before _ s = true := fun w hw => hts0 w (List.mem_cons_of_mem _ hw)
  have hown : s.vm.findClass RX7 = some m.cls := findClass_of_methodNamed B.named
  have hlocks := B.notSynchronized
  have hl := lv_entry ([.ref (q 0), .int p1]) (n := 4) (Nat.le_of_ble_eq_true rfl)
  rw [lg_entry_eq]
  generalize (lg_sl ([.ref (q 0), .int p1]) ++ List.replicate (4 - (lg_sl ([.ref (q 0), .int p1])).length) Slot.unset).toArray = ls at hl ⊢
  have hl : lv_has ls 4 [(0, .ref (q 0)), (1, .int p1)] := hl
  refine lv_iload_n hx hb dX7_count_0 rfl (lv_at hl 1 rfl) ?_
  by_cases c_1_0 : p1 = 0
  · refine xs_in (tgt := 40) hx hb 0 c_1_0 dX7_count_1 (by decide) (by decide) rfl (by decide) ?_
    refine lv_aload_n hx hb dX7_count_40 rfl (lv_at hl 0 rfl) ?_
    refine va_get (D := (dC, dI)) (ci := 7) (v := .int (σ.2.1 0)) (C := RX7) (T := TX7) (N := 26) hx hb hts inX7 hown hK hP 0 rfl rfl 0 (by decide) (hts _ fl_X7_81) (fun _ h9 => h9) rfl dX7_count_41 ?_
    exact W.iret (v := σ.2.1 0) hx hb hr (fun t ht hW => ⟨_, rfl, (by rw [fX7_count, if_pos c_1_0]), ht⟩) (fun _ h => absurd h List.not_mem_nil) dX7_count_44
  by_cases c_1_1 : p1 = 1
  · refine xs_in (tgt := 45) hx hb 1 c_1_1 dX7_count_1 (by decide) (by decide) rfl (by decide) ?_
    refine lv_aload_n hx hb dX7_count_45 rfl (lv_at hl 0 rfl) ?_
    refine va_get (D := (dC, dI)) (ci := 7) (v := .int (σ.2.1 1)) (C := RX7) (T := TX7) (N := 26) hx hb hts inX7 hown hK hP 0 rfl rfl 1 (by decide) (hts _ fl_X7_77) (fun _ h9 => h9) rfl dX7_count_46 ?_
    exact W.iret (v := σ.2.1 1) hx hb hr (fun t ht hW => ⟨_, rfl, (by rw [fX7_count, if_neg c_1_0, if_pos c_1_1]), ht⟩) (fun _ h => absurd h List.not_mem_nil) dX7_count_49
  by_cases c_1_2 : p1 = 2
  · refine xs_in (tgt := 50) hx hb 2 c_1_2 dX7_count_1 (by decide) (by decide) rfl (by decide) ?_
    refine lv_aload_n hx hb dX7_count_50 rfl (lv_at hl 0 rfl) ?_
    refine va_get (D := (dC, dI)) (ci := 7) (v := .int (σ.2.1 2)) (C := RX7) (T := TX7) (N := 26) hx hb hts inX7 hown hK hP 0 rfl rfl 2 (by decide) (hts _ fl_X7_142) (fun _ h9 => h9) rfl dX7_count_51 ?_
    exact W.iret (v := σ.2.1 2) hx hb hr (fun t ht hW => ⟨_, rfl, (by rw [fX7_count, if_neg c_1_0, if_neg c_1_1, if_pos c_1_2]), ht⟩) (fun _ h => absurd h List.not_mem_nil) dX7_count_54
  by_cases c_1_3 : p1 = 3
  · refine xs_in (tgt := 55) hx hb 3 c_1_3 dX7_count_1 (by decide) (by decide) rfl (by decide) ?_
    refine lv_aload_n hx hb dX7_count_55 rfl (lv_at hl 0 rfl) ?_
    refine va_get (D := (dC, dI)) (ci := 7) (v := .int (σ.2.1 3)) (C := RX7) (T := TX7) (N := 26) hx hb hts inX7 hown hK hP 0 rfl rfl 3 (by decide) (hts _ fl_X7_122) (fun _ h9 => h9) rfl dX7_count_56 ?_
    exact W.iret (v := σ.2.1 3) hx hb hr (fun t ht hW => ⟨_, rfl, (by rw [fX7_count, if_neg c_1_0, if_neg c_1_1, if_neg c_1_2, if_pos c_1_3]), ht⟩) (fun _ h => absurd h List.not_mem_nil) dX7_count_59
  by_cases c_1_4 : p1 = 4
  · refine xs_in (tgt := 60) hx hb 4 c_1_4 dX7_count_1 (by decide) (by decide) rfl (by decide) ?_
    refine lv_aload_n hx hb dX7_count_60 rfl (lv_at hl 0 rfl) ?_
    refine va_get (D := (dC, dI)) (ci := 7) (v := .int (σ.2.1 4)) (C := RX7) (T := TX7) (N := 26) hx hb hts inX7 hown hK hP 0 rfl rfl 4 (by decide) (hts _ fl_X7_128) (fun _ h9 => h9) rfl dX7_count_61 ?_
    exact W.iret (v := σ.2.1 4) hx hb hr (fun t ht hW => ⟨_, rfl, (by rw [fX7_count, if_neg c_1_0, if_neg c_1_1, if_neg c_1_2, if_neg c_1_3, if_pos c_1_4]), ht⟩) (fun _ h => absurd h List.not_mem_nil) dX7_count_64
  by_cases c_1_5 : p1 = 5
  · refine xs_in (tgt := 65) hx hb 5 c_1_5 dX7_count_1 (by decide) (by decide) rfl (by decide) ?_
    refine lv_iconst (v := 0) hx hb dX7_count_65 (by decide) ?_
    refine lv_istore_n (lv' := [(2, .int 0), (0, .ref (q 0)), (1, .int p1)]) hx hb dX7_count_66 rfl hl (by decide) rfl (fun ls hl => ?_)
    refine lv_iconst (v := 0) hx hb dX7_count_67 (by decide) ?_
    refine lv_istore_n (lv' := [(3, .int 0), (2, .int 0), (0, .ref (q 0)), (1, .int p1)]) hx hb dX7_count_68 rfl hl (by decide) rfl (fun ls hl => ?_)
    have hz : szI (40 : Int32) 40 := ⟨by decide, by decide⟩
    have hz2 := hz.2
    have hb40 : (40 : Int32).toNatClampNeg = 40 := by decide
    have loop_69 : ∀ (k i : Nat) (n : Int32), i + k = (40 : Int32).toNatClampNeg → fX7_count σ p1 = flX7_count_69 σ p1 k i n → ∀ (ls : Array Slot), lv_has ls 4 [(0, .ref (q 0)), (1, .int p1), (3, .int (nI i)), (2, .int n)] → W p l e (headSpec (.code yX7_count cX7_count 4 (some .int) :: tb) { frames := 1, cells := 0, slots := 0, locals := 20 }).room s m (List.toArray [.ref (q 0), .int p1]) below meth c s.heap [] 0 0 (MQ below (vp_Si (fun r => r = fX7_count σ p1)) (List.toArray [.ref (q 0), .int p1]) s 0 0 (fun _ => False)) (F0 m 69 ls []) := by
      intro k
      induction k with
      | zero =>
        intro i n hik hE ls hl
        refine lv_iload_n hx hb dX7_count_69 rfl (lv_at hl 2 rfl) ?_
        refine lv_bipush (v := 40) hx hb dX7_count_70 (by decide) ?_
        refine lv_icmp_ge (tgt := 104) hx hb dX7_count_72 (by decide) (fun c_72 => ?_) (fun c_72 => ?_)
        · refine lv_iload_n hx hb dX7_count_104 rfl (lv_at hl 3 rfl) ?_
          exact W.iret (v := n) hx hb hr (fun t ht hW => ⟨_, rfl, (by rw [hE, flX7_count_69]), ht⟩) (fun _ h => absurd h List.not_mem_nil) dX7_count_105
        · exact absurd (by rw [hz.1]; exact nI_le (by omega) (by omega)) c_72
      | succ k ih =>
        intro i n hik hE ls hl
        refine lv_iload_n hx hb dX7_count_69 rfl (lv_at hl 2 rfl) ?_
        refine lv_bipush (v := 40) hx hb dX7_count_70 (by decide) ?_
        refine lv_icmp_ge (tgt := 104) hx hb dX7_count_72 (by decide) (fun c_72 => ?_) (fun c_72 => ?_)
        · exact absurd c_72 (by rw [hz.1]; exact nI_ge (by omega) (by omega))
        · refine lv_iload_n hx hb dX7_count_75 rfl (lv_at hl 3 rfl) ?_
          refine lv_aload_n hx hb dX7_count_76 rfl (lv_at hl 0 rfl) ?_
          refine va_get (D := (dC, dI)) (ci := 7) (v := .ref (q 21)) (C := RX7) (T := TX7) (N := 26) hx hb hts inX7 hown hK hP 0 rfl rfl 25 (by decide) (hts _ fl_X7_70) (fun _ h9 => h9) rfl dX7_count_77 ?_
          refine lv_iload_n hx hb dX7_count_80 rfl (lv_at hl 2 rfl) ?_
          refine xa_ild hx hb hK hP 21 0 rfl rfl (by omega) (by decide) dX7_count_81 ?_
          refine lv_sipush (v := 2001) hx hb dX7_count_82 (by decide) ?_
          refine lv_icmp_eq (tgt := 92) hx hb dX7_count_85 (by decide) (fun c_85 => ?_) (fun c_85 => ?_)
          · refine lv_iconst (v := 0) hx hb dX7_count_92 (by decide) ?_
            refine xc_i (va_runS (As := [.int 0]) (rest := [.int n]) ⟨hx, hb, hml, hown, hts⟩ (c_X7_one l dC dI cI cJ q σ 0) (va_cwS 1 hts (gS ml_X7_135 st_X7_one in_X7 co_X7_one) rfl rfl rfl (by decide +kernel) ⟨Nat.le_of_ble_eq_true rfl, Nat.le_of_ble_eq_true rfl⟩) (preS hK hP) rfl rfl hl.1 rfl (lv_room (Nat.le_of_ble_eq_true rfl)) dX7_count_93 ⟨Nat.zero_le _, Nat.zero_le _⟩) ?_
            refine lv_iadd hx hb dX7_count_96 ?_
            refine lv_istore_n (lv' := [(2, .int (n + (fX7_one σ 0))), (0, .ref (q 0)), (1, .int p1), (3, .int (nI i))]) hx hb dX7_count_97 rfl hl (by decide) rfl (fun ls hl => ?_)
            refine lv_iinc (v := nI (i + 1)) (lv' := [(3, .int (nI (i + 1))), (2, .int (n + (fX7_one σ 0))), (0, .ref (q 0)), (1, .int p1)]) hx hb dX7_count_98 hl (k := 3) rfl (nI_1 i) (by decide) rfl (fun ls hl => ?_)
            refine lv_goto (tgt := 69) hx hb dX7_count_101 (by decide) ?_
            exact ih (i + 1) (n + (fX7_one σ 0)) (by omega) (by rw [hE, flX7_count_69, if_pos c_85]) ls (lv_sub hl [2, 3, 0, 1] rfl)
          · refine lv_iconst (v := 1) hx hb dX7_count_88 (by decide) ?_
            refine lv_goto (tgt := 93) hx hb dX7_count_89 (by decide) ?_
            refine xc_i (va_runS (As := [.int 1]) (rest := [.int n]) ⟨hx, hb, hml, hown, hts⟩ (c_X7_one l dC dI cI cJ q σ 1) (va_cwS 1 hts (gS ml_X7_135 st_X7_one in_X7 co_X7_one) rfl rfl rfl (by decide +kernel) ⟨Nat.le_of_ble_eq_true rfl, Nat.le_of_ble_eq_true rfl⟩) (preS hK hP) rfl rfl hl.1 rfl (lv_room (Nat.le_of_ble_eq_true rfl)) dX7_count_93 ⟨Nat.zero_le _, Nat.zero_le _⟩) ?_
            refine lv_iadd hx hb dX7_count_96 ?_
            refine lv_istore_n (lv' := [(2, .int (n + (fX7_one σ 1))), (0, .ref (q 0)), (1, .int p1), (3, .int (nI i))]) hx hb dX7_count_97 rfl hl (by decide) rfl (fun ls hl => ?_)
            refine lv_iinc (v := nI (i + 1)) (lv' := [(3, .int (nI (i + 1))), (2, .int (n + (fX7_one σ 1))), (0, .ref (q 0)), (1, .int p1)]) hx hb dX7_count_98 hl (k := 3) rfl (nI_1 i) (by decide) rfl (fun ls hl => ?_)
            refine lv_goto (tgt := 69) hx hb dX7_count_101 (by decide) ?_
            exact ih (i + 1) (n + (fX7_one σ 1)) (by omega) (by rw [hE, flX7_count_69, if_neg c_85]) ls (lv_sub hl [2, 3, 0, 1] rfl)
    exact loop_69 ((40 : Int32).toNatClampNeg) 0 0 (by rw [Nat.zero_add]) (by rw [fX7_count, if_neg c_1_0, if_neg c_1_1, if_neg c_1_2, if_neg c_1_3, if_neg c_1_4, if_pos c_1_5]) ls (lv_sub hl [2, 3, 0, 1] rfl)
  refine lv_tableOut (tgt := 106) hx hb dX7_count_1 (xs_out (n := 6) (by decide) (fun k hk => by
      match k, hk with
      | 0, _ => exact c_1_0
      | 1, _ => exact c_1_1
      | 2, _ => exact c_1_2
      | 3, _ => exact c_1_3
      | 4, _ => exact c_1_4
      | 5, _ => exact c_1_5
      | k + 6, h => exact absurd h (by omega))) (by decide) ?_
  refine lv_iconst (v := (-1)) hx hb dX7_count_106 (by decide) ?_
  exact W.iret (v := (-1)) hx hb hr (fun t ht hW => ⟨_, rfl, (by rw [fX7_count, if_neg c_1_0, if_neg c_1_1, if_neg c_1_2, if_neg c_1_3, if_neg c_1_4, if_neg c_1_5]), ht⟩) (fun _ h => absurd h List.not_mem_nil) dX7_count_107
