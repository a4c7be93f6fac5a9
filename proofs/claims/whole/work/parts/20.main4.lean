def flX6_carryAll_11 (σ : St) (p1 : Int32) (p2 : Int32) : Nat → Nat → St → St
  | 0, i, σ1 => σ1
  | k + 1, i, σ1 => (if (fX3_isKnown_F σ1 (nI i) p2) = 0 then flX6_carryAll_11 σ p1 p2 k (i + 1) σ1 else flX6_carryAll_11 σ p1 p2 k (i + 1) (fX0_add σ1 (fX5_livingOn σ1 (σ1.1 15 ((nI i).toNatClampNeg)) (σ1.1 16 ((nI i).toNatClampNeg)) p2) (σ1.1 17 ((nI i).toNatClampNeg))))
def fX6_carryAll (σ : St) (p1 : Int32) (p2 : Int32) : St :=
  flX6_carryAll_11 σ p1 p2 (((fX0_start σ p1 p2).2.1 2).toNatClampNeg) 0 (fX0_start σ p1 p2)
set_option maxHeartbeats 4000000 in
set_option maxRecDepth 100000 in
theorem c_X6_carryAll (l : Launch) (dC : Nat → ClassId) (dI : Nat → Nat → Nat) (cI cJ : ClassId) (q : Nat → Nat) (σ : St) (p1 : Int32) (p2 : Int32) (hd : dT 30 q) (hI : IB σ) : Met l yX6_carryAll (.code yX6_carryAll cX6_carryAll 4 none :: tb) { frames := 45, cells := 0, slots := 0, locals := 1196 } (Pu (dC, dI) (tyC cI cJ) (wT cI cJ q σ) [.ref (q 0), .int p1, .int p2]) (xw_Q none (dC, dI) (wT cI cJ q (fX6_carryAll σ p1 p2)) (aT 30 q)) 0 0 (aT 30 q) := by
  refine Met.ofW (cc := cX6_carryAll) (maxL := 4) (ret := none) (by decide) rfl ?_
  intro p e s m args below meth c s₁ B hml hv
  obtain ⟨rfl, hP, hK⟩ := hv
  have hx := B.exec
  have hb := B.bytes
  have hr := B.returns
  have hts0 := atoms_spec (ws := .code yX6_carryAll cX6_carryAll 4 none :: tb) B.pre
  have hts : ∀ w ∈ tb, w.before _ s = true := fun w hw => hts0 w (List.mem_cons_of_mem _ hw)
  have hown : s.vm.findClass RX6 = some m.cls := findClass_of_methodNamed B.named
  have hlocks := B.notSynchronized
  have hl := lv_entry ([.ref (q 0), .int p1, .int p2]) (n := 4) (Nat.le_of_ble_eq_true rfl)
  rw [lg_entry_eq]
  generalize (lg_sl ([.ref (q 0), .int p1, .int p2]) ++ List.replicate (4 - (lg_sl ([.ref (q 0), .int p1, .int p2])).length) Slot.unset).toArray = ls at hl ⊢
  have hl : lv_has ls 4 [(0, .ref (q 0)), (1, .int p1), (2, .int p2)] := hl
  obtain ⟨H, hHe⟩ : ∃ H, s.heap = H := ⟨_, rfl⟩
  rw [hHe] at hP ⊢
  obtain ⟨locs, hLe⟩ : ∃ x : List Loc, ([] : List Loc) = x := ⟨_, rfl⟩
  rw [hLe]
  have hS : va_S (aT 30 q) s.heap H locs := by rw [← hHe, ← hLe]; exact va_S.rf
  refine lv_aload_n hx hb dX6_carryAll_0 rfl (lv_at hl 0 rfl) ?_
  refine va_get (D := (dC, dI)) (ci := 6) (v := .ref (q 28)) (C := RX6) (T := TX6) (N := 6) hx hb hts inX6 hown hK hP 0 rfl rfl 4 (by decide) (hts _ fl_X6_44) (fun _ h9 => h9) rfl dX6_carryAll_1 ?_
  refine lv_iload_n hx hb dX6_carryAll_4 rfl (lv_at hl 1 rfl) ?_
  refine lv_iload_n hx hb dX6_carryAll_5 rfl (lv_at hl 2 rfl) ?_
  refine xw_c (va_runV (As := [.int p1, .int p2]) (rest := []) ⟨hx, hb, hml, hown, hts⟩ (c_X0_start l dC dI cI cJ q σ p1 p2 (by assumption)) (cwV 2 hts (gV ml_X6_201 im_X0_start se_X0_start in_X0 co_X0_start) rfl rfl rfl (by decide +kernel) ⟨Nat.le_of_ble_eq_true rfl, Nat.le_of_ble_eq_true rfl⟩) (preV hK hP (pos := 28) (ci := 0) rfl rfl) rfl rfl hl.1 rfl (lv_room (Nat.le_of_ble_eq_true rfl)) dX6_carryAll_6 ⟨Nat.zero_le _, Nat.zero_le _⟩) hS (fun _ h => h) (fun H locs hP _ _ hS => ?_)
  have hP : va_P (dC, dI) vwCl (wT cI cJ q (fX0_start σ p1 p2)) H := hP
  refine W.eq (g2 := F0 m 9 ls []) rfl ?_
  refine lv_iconst (v := 0) hx hb dX6_carryAll_9 (by decide) ?_
  refine lv_istore_n (lv' := [(3, .int 0), (0, .ref (q 0)), (1, .int p1), (2, .int p2)]) hx hb dX6_carryAll_10 rfl hl (by decide) rfl (fun ls hl => ?_)
  have loop_11 : ∀ (k i : Nat) (σ1 : St) (H : Heap) (locs : List Loc), i + k = (σ1.2.1 2).toNatClampNeg → szI (σ1.2.1 2) 200 → IB σ1 → fX6_carryAll σ p1 p2 = flX6_carryAll_11 σ p1 p2 k i σ1 → ∀ (ls : Array Slot), lv_has ls 4 [(0, .ref (q 0)), (1, .int p1), (2, .int p2), (3, .int (nI i))] → va_P (dC, dI) vwCl (wT cI cJ q σ1) H → va_S (aT 30 q) s.heap H locs → W p l e (headSpec (.code yX6_carryAll cX6_carryAll 4 none :: tb) { frames := 45, cells := 0, slots := 0, locals := 1196 }).room s m (List.toArray [.ref (q 0), .int p1, .int p2]) below meth c H locs 0 0 (MQ below (xw_Q none (dC, dI) (wT cI cJ q (fX6_carryAll σ p1 p2)) (aT 30 q)) (List.toArray [.ref (q 0), .int p1, .int p2]) s 0 0 (aT 30 q)) (F0 m 11 ls []) := by
    intro k
    induction k with
    | zero =>
      intro i σ1 H locs hik hz hv hE ls hl hP hS
      have hz2 := hz.2
      refine lv_iload_n hx hb dX6_carryAll_11 rfl (lv_at hl 3 rfl) ?_
      refine lv_aload_n hx hb dX6_carryAll_12 rfl (lv_at hl 0 rfl) ?_
      refine va_get (D := (dC, dI)) (ci := 6) (v := .ref (q 21)) (C := RX6) (T := TX6) (N := 6) hx hb hts inX6 hown hK hP 0 rfl rfl 3 (by decide) (hts _ fl_X6_35) (fun _ h9 => h9) rfl dX6_carryAll_13 ?_
      refine xc_i (va_runV (As := []) (rest := [.int (nI i)]) ⟨hx, hb, hml, hown, hts⟩ (c_X1_size l dC dI cI cJ q σ1 ) (cwV 0 hts (gV ml_X6_155 im_X1_size se_X1_size in_X1 co_X1_size) rfl rfl rfl (by decide +kernel) ⟨Nat.le_of_ble_eq_true rfl, Nat.le_of_ble_eq_true rfl⟩) (preV hK hP (pos := 21) (ci := 1) rfl rfl) rfl rfl hl.1 rfl (lv_room (Nat.le_of_ble_eq_true rfl)) dX6_carryAll_16 ⟨Nat.zero_le _, Nat.zero_le _⟩) ?_
      refine lv_icmp_ge (tgt := 61) hx hb dX6_carryAll_19 (by decide) (fun c_19 => ?_) (fun c_19 => ?_)
      · have hF : fX6_carryAll σ p1 p2 = σ1 := by rw [hE, flX6_carryAll_11]
        have hP9 : va_P (dC, dI) vwCl (wT cI cJ q (fX6_carryAll σ p1 p2)) H := by rw [hF]; exact hP
        exact W.vret hx hb hr (fun t ht hW => ⟨rfl, by rw [ht]; exact hP9, hS.F ht⟩) hS.2.2 dX6_carryAll_61
      · exact absurd (by rw [hz.1]; exact nI_le (by omega) (by omega)) c_19
    | succ k ih =>
      intro i σ1 H locs hik hz hv hE ls hl hP hS
      have hz2 := hz.2
      refine lv_iload_n hx hb dX6_carryAll_11 rfl (lv_at hl 3 rfl) ?_
      refine lv_aload_n hx hb dX6_carryAll_12 rfl (lv_at hl 0 rfl) ?_
      refine va_get (D := (dC, dI)) (ci := 6) (v := .ref (q 21)) (C := RX6) (T := TX6) (N := 6) hx hb hts inX6 hown hK hP 0 rfl rfl 3 (by decide) (hts _ fl_X6_35) (fun _ h9 => h9) rfl dX6_carryAll_13 ?_
      refine xc_i (va_runV (As := []) (rest := [.int (nI i)]) ⟨hx, hb, hml, hown, hts⟩ (c_X1_size l dC dI cI cJ q σ1 ) (cwV 0 hts (gV ml_X6_155 im_X1_size se_X1_size in_X1 co_X1_size) rfl rfl rfl (by decide +kernel) ⟨Nat.le_of_ble_eq_true rfl, Nat.le_of_ble_eq_true rfl⟩) (preV hK hP (pos := 21) (ci := 1) rfl rfl) rfl rfl hl.1 rfl (lv_room (Nat.le_of_ble_eq_true rfl)) dX6_carryAll_16 ⟨Nat.zero_le _, Nat.zero_le _⟩) ?_
      refine lv_icmp_ge (tgt := 61) hx hb dX6_carryAll_19 (by decide) (fun c_19 => ?_) (fun c_19 => ?_)
      · exact absurd c_19 (by rw [hz.1]; exact nI_ge (by omega) (by omega))
      · refine lv_aload_n hx hb dX6_carryAll_22 rfl (lv_at hl 0 rfl) ?_
        refine va_get (D := (dC, dI)) (ci := 6) (v := .ref (q 21)) (C := RX6) (T := TX6) (N := 6) hx hb hts inX6 hown hK hP 0 rfl rfl 3 (by decide) (hts _ fl_X6_35) (fun _ h9 => h9) rfl dX6_carryAll_23 ?_
        refine lv_iload_n hx hb dX6_carryAll_26 rfl (lv_at hl 3 rfl) ?_
        refine lv_iload_n hx hb dX6_carryAll_27 rfl (lv_at hl 2 rfl) ?_
        refine xc_i (va_runV (As := [.int (nI i), .int p2]) (rest := []) ⟨hx, hb, hml, hown, hts⟩ (c_X1_isKnown l dC dI cI cJ q σ1 (nI i) p2 hv) (cwV 2 hts (gV ml_X6_145 im_X1_isKnown se_X1_isKnown in_X1 co_X1_isKnown) rfl rfl rfl (by decide +kernel) ⟨Nat.le_of_ble_eq_true rfl, Nat.le_of_ble_eq_true rfl⟩) (preV hK hP (pos := 21) (ci := 1) rfl rfl) rfl rfl hl.1 rfl (lv_room (Nat.le_of_ble_eq_true rfl)) dX6_carryAll_28 ⟨Nat.zero_le _, Nat.zero_le _⟩) ?_
        refine lv_if_eq (tgt := 55) hx hb dX6_carryAll_31 (by decide) (fun c_31 => ?_) (fun c_31 => ?_)
        · refine lv_iinc (v := nI (i + 1)) (lv' := [(3, .int (nI (i + 1))), (0, .ref (q 0)), (1, .int p1), (2, .int p2)]) hx hb dX6_carryAll_55 hl (k := 3) rfl (nI_1 i) (by decide) rfl (fun ls hl => ?_)
          refine lv_goto (tgt := 11) hx hb dX6_carryAll_58 (by decide) ?_
          exact ih (i + 1) _ H locs (by first | omega | (rw [cadd_V]; omega)) (by first | exact hz | (rw [cadd_V]; exact hz)) (by first | exact hv | exact cadd_IB hv) (by rw [hE, flX6_carryAll_11, if_pos c_31]) ls (lv_sub hl [1, 2, 3, 0] rfl) hP hS
        · refine lv_aload_n hx hb dX6_carryAll_34 rfl (lv_at hl 0 rfl) ?_
          refine va_get (D := (dC, dI)) (ci := 6) (v := .ref (q 28)) (C := RX6) (T := TX6) (N := 6) hx hb hts inX6 hown hK hP 0 rfl rfl 4 (by decide) (hts _ fl_X6_44) (fun _ h9 => h9) rfl dX6_carryAll_35 ?_
          refine lv_aload_n hx hb dX6_carryAll_38 rfl (lv_at hl 0 rfl) ?_
          refine lv_iload_n hx hb dX6_carryAll_39 rfl (lv_at hl 3 rfl) ?_
          refine lv_iload_n hx hb dX6_carryAll_40 rfl (lv_at hl 2 rfl) ?_
          refine xc_i (va_runV (As := [.int (nI i), .int p2]) (rest := [.ref (q 28)]) ⟨hx, hb, hml, hown, hts⟩ (c_X6_thingOfFact l dC dI cI cJ q σ1 (nI i) p2 hv (vp_in_nI (by omega) (by decide))) (cwV 2 hts (gV ml_X6_146 im_X6_thingOfFact se_X6_thingOfFact in_X6 co_X6_thingOfFact) rfl rfl rfl (by decide +kernel) ⟨Nat.le_of_ble_eq_true rfl, Nat.le_of_ble_eq_true rfl⟩) (preV hK hP (pos := 0) (ci := 6) rfl rfl) rfl rfl hl.1 rfl (lv_room (Nat.le_of_ble_eq_true rfl)) dX6_carryAll_41 ⟨Nat.zero_le _, Nat.zero_le _⟩) ?_
          refine lv_aload_n hx hb dX6_carryAll_44 rfl (lv_at hl 0 rfl) ?_
          refine va_get (D := (dC, dI)) (ci := 6) (v := .ref (q 21)) (C := RX6) (T := TX6) (N := 6) hx hb hts inX6 hown hK hP 0 rfl rfl 3 (by decide) (hts _ fl_X6_35) (fun _ h9 => h9) rfl dX6_carryAll_45 ?_
          refine lv_iload_n hx hb dX6_carryAll_48 rfl (lv_at hl 3 rfl) ?_
          refine xc_i (va_runV (As := [.int (nI i)]) (rest := [.int (fX5_livingOn σ1 (σ1.1 15 ((nI i).toNatClampNeg)) (σ1.1 16 ((nI i).toNatClampNeg)) p2), .ref (q 28)]) ⟨hx, hb, hml, hown, hts⟩ (c_X1_amountOf l dC dI cI cJ q σ1 (nI i) (vp_in_nI (by omega) (by decide))) (cwV 1 hts (gV ml_X6_161 im_X1_amountOf se_X1_amountOf in_X1 co_X1_amountOf) rfl rfl rfl (by decide +kernel) ⟨Nat.le_of_ble_eq_true rfl, Nat.le_of_ble_eq_true rfl⟩) (preV hK hP (pos := 21) (ci := 1) rfl rfl) rfl rfl hl.1 rfl (lv_room (Nat.le_of_ble_eq_true rfl)) dX6_carryAll_49 ⟨Nat.zero_le _, Nat.zero_le _⟩) ?_
          refine xw_c (va_runV (As := [.int (fX5_livingOn σ1 (σ1.1 15 ((nI i).toNatClampNeg)) (σ1.1 16 ((nI i).toNatClampNeg)) p2), .int (σ1.1 17 ((nI i).toNatClampNeg))]) (rest := []) ⟨hx, hb, hml, hown, hts⟩ (c_X0_add l dC dI cI cJ q σ1 (fX5_livingOn σ1 (σ1.1 15 ((nI i).toNatClampNeg)) (σ1.1 16 ((nI i).toNatClampNeg)) p2) (σ1.1 17 ((nI i).toNatClampNeg)) (by assumption) hv) (cwV 2 hts (gV ml_X6_204 im_X0_add se_X0_add in_X0 co_X0_add) rfl rfl rfl (by decide +kernel) ⟨Nat.le_of_ble_eq_true rfl, Nat.le_of_ble_eq_true rfl⟩) (preV hK hP (pos := 28) (ci := 0) rfl rfl) rfl rfl hl.1 rfl (lv_room (Nat.le_of_ble_eq_true rfl)) dX6_carryAll_52 ⟨Nat.zero_le _, Nat.zero_le _⟩) hS (fun _ h => h) (fun H locs hP _ _ hS => ?_)
          have hP : va_P (dC, dI) vwCl (wT cI cJ q (fX0_add σ1 (fX5_livingOn σ1 (σ1.1 15 ((nI i).toNatClampNeg)) (σ1.1 16 ((nI i).toNatClampNeg)) p2) (σ1.1 17 ((nI i).toNatClampNeg)))) H := hP
          refine W.eq (g2 := F0 m 55 ls []) rfl ?_
          refine lv_iinc (v := nI (i + 1)) (lv' := [(3, .int (nI (i + 1))), (0, .ref (q 0)), (1, .int p1), (2, .int p2)]) hx hb dX6_carryAll_55 hl (k := 3) rfl (nI_1 i) (by decide) rfl (fun ls hl => ?_)
          refine lv_goto (tgt := 11) hx hb dX6_carryAll_58 (by decide) ?_
          exact ih (i + 1) _ H locs (by first | omega | (rw [cadd_V]; omega)) (by first | exact hz | (rw [cadd_V]; exact hz)) (by first | exact hv | exact cadd_IB hv) (by rw [hE, flX6_carryAll_11, if_neg c_31]) ls (lv_sub hl [1, 2, 3, 0] rfl) hP hS
  exact loop_11 (((fX0_start σ p1 p2).2.1 2).toNatClampNeg) 0 _ H locs (by rw [Nat.zero_add]) (start_IB hI).2.1 (start_IB hI) (by rw [fX6_carryAll]) ls (lv_sub hl [1, 2, 3, 0] rfl) hP hS

theorem cAl_keep (σ : St) (d k : Int32) : ∀ (n i : Nat) (σ1 : St), (flX6_carryAll_11 σ d k n i σ1).1 = σ1.1 ∧ (flX6_carryAll_11 σ d k n i σ1).2.1 = σ1.2.1 := by
  intro n
  induction n with
  | zero => intro i σ1; exact ⟨rfl, rfl⟩
  | succ n ih =>
    intro i σ1
    rw [flX6_carryAll_11]
    split
    · exact ih _ _
    · exact ⟨(ih _ _).1.trans cadd_A, (ih _ _).2.trans cadd_V⟩
theorem cA_A (σ : St) (d k : Int32) : (fX6_carryAll σ d k).1 = σ.1 := by
  unfold fX6_carryAll
  exact (cAl_keep _ _ _ _ _ _).1.trans (start_keep _ _ _ _ _ _).1
theorem cA_V (σ : St) (d k : Int32) : (fX6_carryAll σ d k).2.1 = va_up (va_up σ.2.1 6 d) 7 k := by
  unfold fX6_carryAll
  exact (cAl_keep _ _ _ _ _ _).2.trans (start_keep _ _ _ _ _ _).2
theorem cA_IB {σ : St} {d k : Int32} (h : IB σ) : IB (fX6_carryAll σ d k) := by
  have e : IB (sV (sV σ 6 d) 7 k) := h
  exact IB_congr (σ := sV (sV σ 6 d) 7 k) (cA_A σ d k) (cA_V σ d k) e

def flX6_by_44 (σ : St) (p1 : Int32) (p2 : Int32) (p3 : Int32) (p4 : Int32) : Nat → Nat → Int64 → Int64 × St
  | 0, i, tot => (tot, (fX6_carryAll σ p3 p4))
  | k + 1, i, tot => (if (fX4_valueOn (fX6_carryAll σ p3 p4) (nI i) p1 p3 p4) = p2 then flX6_by_44 σ p1 p2 p3 p4 k (i + 1) (tot + ((fX6_carryAll σ p3 p4).2.2.1 ((nI i).toNatClampNeg))) else flX6_by_44 σ p1 p2 p3 p4 k (i + 1) tot)
def fX6_by (σ : St) (p1 : Int32) (p2 : Int32) (p3 : Int32) (p4 : Int32) : Int64 × St :=
  (if (fX6_isMark σ p1) = 0 then (0, σ) else (if (fX6_isAnswer σ p2) = 0 then (0, σ) else (if (fX6_isDay σ p3) = 0 then (0, σ) else (if (fX6_isDay σ p4) = 0 then (0, σ) else flX6_by_44 σ p1 p2 p3 p4 (((fX6_carryAll σ p3 p4).2.1 1).toNatClampNeg) 0 0))))
set_option maxHeartbeats 4000000 in
set_option maxRecDepth 100000 in
theorem c_X6_by (l : Launch) (dC : Nat → ClassId) (dI : Nat → Nat → Nat) (cI cJ : ClassId) (q : Nat → Nat) (σ : St) (p1 : Int32) (p2 : Int32) (p3 : Int32) (p4 : Int32) (hd : dT 30 q) (hI : IB σ) : Met l yX6_by (.code yX6_by cX6_by 8 (some .long) :: tb) { frames := 46, cells := 0, slots := 0, locals := 1219 } (Pu (dC, dI) (tyC cI cJ) (wT cI cJ q σ) [.ref (q 0), .int p1, .int p2, .int p3, .int p4]) (xw_Q (some (.long (fX6_by σ p1 p2 p3 p4).1)) (dC, dI) (wT cI cJ q (fX6_by σ p1 p2 p3 p4).2) (aT 30 q)) 0 0 (aT 30 q) := by
  refine Met.ofW (cc := cX6_by) (maxL := 8) (ret := (some .long)) (by decide) rfl ?_
  intro p e s m args below meth c s₁ B hml hv
  obtain ⟨rfl, hP, hK⟩ := hv
  have hx := B.exec
  have hb := B.bytes
  have hr := B.returns
  have hts0 := atoms_spec (ws := .code yX6_by cX6_by 8 (some .long) :: tb) B.pre
  have hts : ∀ w ∈ tb, w.before _ s = true := fun w hw => hts0 w (List.mem_cons_of_mem _ hw)
  have hown : s.vm.findClass RX6 = some m.cls := findClass_of_methodNamed B.named
  have hlocks := B.notSynchronized
  have hl := lv_entry ([.ref (q 0), .int p1, .int p2, .int p3, .int p4]) (n := 8) (Nat.le_of_ble_eq_true rfl)
  rw [lg_entry_eq]
  generalize (lg_sl ([.ref (q 0), .int p1, .int p2, .int p3, .int p4]) ++ List.replicate (8 - (lg_sl ([.ref (q 0), .int p1, .int p2, .int p3, .int p4])).length) Slot.unset).toArray = ls at hl ⊢
  have hl : lv_has ls 8 [(0, .ref (q 0)), (1, .int p1), (2, .int p2), (3, .int p3), (4, .int p4)] := hl
  obtain ⟨H, hHe⟩ : ∃ H, s.heap = H := ⟨_, rfl⟩
  rw [hHe] at hP ⊢
  obtain ⟨locs, hLe⟩ : ∃ x : List Loc, ([] : List Loc) = x := ⟨_, rfl⟩
  rw [hLe]
  have hS : va_S (aT 30 q) s.heap H locs := by rw [← hHe, ← hLe]; exact va_S.rf
  refine lv_iload_n hx hb dX6_by_0 rfl (lv_at hl 1 rfl) ?_
  refine xc_i (va_runS (As := [.int p1]) (rest := []) ⟨hx, hb, hml, hown, hts⟩ (c_X6_isMark l dC dI cI cJ q σ p1) (va_cwS 1 hts (gS ml_X6_89 st_X6_isMark in_X6 co_X6_isMark) rfl rfl rfl (by decide +kernel) ⟨Nat.le_of_ble_eq_true rfl, Nat.le_of_ble_eq_true rfl⟩) (preS hK hP) rfl rfl hl.1 rfl (lv_room (Nat.le_of_ble_eq_true rfl)) dX6_by_1 ⟨Nat.zero_le _, Nat.zero_le _⟩) ?_
  refine lv_if_eq (tgt := 29) hx hb dX6_by_4 (by decide) (fun c_4 => ?_) (fun c_4 => ?_)
  · refine lv_lconst (v := 0) hx hb dX6_by_29 (by decide) ?_
    have hF : fX6_by σ p1 p2 p3 p4 = (0, σ) := by rw [fX6_by, if_pos c_4]
    have hP9 : va_P (dC, dI) vwCl (wT cI cJ q (fX6_by σ p1 p2 p3 p4).2) H := by rw [hF]; exact hP
    exact W.lret (v := 0) hx hb hr (fun t ht hW => ⟨(by rw [hF]), by rw [ht]; exact hP9, hS.F ht⟩) hS.2.2 dX6_by_30
  · refine lv_iload_n hx hb dX6_by_7 rfl (lv_at hl 2 rfl) ?_
    refine xc_i (va_runS (As := [.int p2]) (rest := []) ⟨hx, hb, hml, hown, hts⟩ (c_X6_isAnswer l dC dI cI cJ q σ p2) (va_cwS 1 hts (gS ml_X6_152 st_X6_isAnswer in_X6 co_X6_isAnswer) rfl rfl rfl (by decide +kernel) ⟨Nat.le_of_ble_eq_true rfl, Nat.le_of_ble_eq_true rfl⟩) (preS hK hP) rfl rfl hl.1 rfl (lv_room (Nat.le_of_ble_eq_true rfl)) dX6_by_8 ⟨Nat.zero_le _, Nat.zero_le _⟩) ?_
    refine lv_if_eq (tgt := 29) hx hb dX6_by_11 (by decide) (fun c_11 => ?_) (fun c_11 => ?_)
    · refine lv_lconst (v := 0) hx hb dX6_by_29 (by decide) ?_
      have hF : fX6_by σ p1 p2 p3 p4 = (0, σ) := by rw [fX6_by, if_neg c_4, if_pos c_11]
      have hP9 : va_P (dC, dI) vwCl (wT cI cJ q (fX6_by σ p1 p2 p3 p4).2) H := by rw [hF]; exact hP
      exact W.lret (v := 0) hx hb hr (fun t ht hW => ⟨(by rw [hF]), by rw [ht]; exact hP9, hS.F ht⟩) hS.2.2 dX6_by_30
    · refine lv_iload_n hx hb dX6_by_14 rfl (lv_at hl 3 rfl) ?_
      refine xc_i (va_runS (As := [.int p3]) (rest := []) ⟨hx, hb, hml, hown, hts⟩ (c_X6_isDay l dC dI cI cJ q σ p3) (va_cwS 1 hts (gS ml_X6_56 st_X6_isDay in_X6 co_X6_isDay) rfl rfl rfl (by decide +kernel) ⟨Nat.le_of_ble_eq_true rfl, Nat.le_of_ble_eq_true rfl⟩) (preS hK hP) rfl rfl hl.1 rfl (lv_room (Nat.le_of_ble_eq_true rfl)) dX6_by_15 ⟨Nat.zero_le _, Nat.zero_le _⟩) ?_
      refine lv_if_eq (tgt := 29) hx hb dX6_by_18 (by decide) (fun c_18 => ?_) (fun c_18 => ?_)
      · refine lv_lconst (v := 0) hx hb dX6_by_29 (by decide) ?_
        have hF : fX6_by σ p1 p2 p3 p4 = (0, σ) := by rw [fX6_by, if_neg c_4, if_neg c_11, if_pos c_18]
        have hP9 : va_P (dC, dI) vwCl (wT cI cJ q (fX6_by σ p1 p2 p3 p4).2) H := by rw [hF]; exact hP
        exact W.lret (v := 0) hx hb hr (fun t ht hW => ⟨(by rw [hF]), by rw [ht]; exact hP9, hS.F ht⟩) hS.2.2 dX6_by_30
      · refine lv_iload hx hb dX6_by_21 (lv_at hl 4 rfl) ?_
        refine xc_i (va_runS (As := [.int p4]) (rest := []) ⟨hx, hb, hml, hown, hts⟩ (c_X6_isDay l dC dI cI cJ q σ p4) (va_cwS 1 hts (gS ml_X6_56 st_X6_isDay in_X6 co_X6_isDay) rfl rfl rfl (by decide +kernel) ⟨Nat.le_of_ble_eq_true rfl, Nat.le_of_ble_eq_true rfl⟩) (preS hK hP) rfl rfl hl.1 rfl (lv_room (Nat.le_of_ble_eq_true rfl)) dX6_by_23 ⟨Nat.zero_le _, Nat.zero_le _⟩) ?_
        refine lv_if_ne (tgt := 31) hx hb dX6_by_26 (by decide) (fun c_26 => ?_) (fun c_26 => ?_)
        · refine lv_aload_n hx hb dX6_by_31 rfl (lv_at hl 0 rfl) ?_
          refine lv_iload_n hx hb dX6_by_32 rfl (lv_at hl 3 rfl) ?_
          refine lv_iload hx hb dX6_by_33 (lv_at hl 4 rfl) ?_
          refine xw_c (va_runV (As := [.int p3, .int p4]) (rest := []) ⟨hx, hb, hml, hown, hts⟩ (c_X6_carryAll l dC dI cI cJ q σ p3 p4 (by assumption) (by assumption)) (cwV 2 hts (gV ml_X6_164 im_X6_carryAll se_X6_carryAll in_X6 co_X6_carryAll) rfl rfl rfl (by decide +kernel) ⟨Nat.le_of_ble_eq_true rfl, Nat.le_of_ble_eq_true rfl⟩) (preV hK hP (pos := 0) (ci := 6) rfl rfl) rfl rfl hl.1 rfl (lv_room (Nat.le_of_ble_eq_true rfl)) dX6_by_35 ⟨Nat.zero_le _, Nat.zero_le _⟩) hS (fun _ h => h) (fun H locs hP _ _ hS => ?_)
          have hP : va_P (dC, dI) vwCl (wT cI cJ q (fX6_carryAll σ p3 p4)) H := hP
          refine W.eq (g2 := F0 m 38 ls []) rfl ?_
          refine lv_lconst (v := 0) hx hb dX6_by_38 (by decide) ?_
          refine lv_lstore (lv' := [(5, .long 0), (0, .ref (q 0)), (1, .int p1), (2, .int p2), (3, .int p3), (4, .int p4)]) hx hb dX6_by_39 hl (by decide) rfl (fun ls hl => ?_)
          refine lv_iconst (v := 0) hx hb dX6_by_41 (by decide) ?_
          refine lv_istore (lv' := [(7, .int 0), (5, .long 0), (0, .ref (q 0)), (1, .int p1), (2, .int p2), (3, .int p3), (4, .int p4)]) hx hb dX6_by_42 hl (by decide) rfl (fun ls hl => ?_)
          have hz : szI ((fX6_carryAll σ p3 p4).2.1 1) 40 := (cA_IB hI).1
          have hz2 := hz.2
          have loop_44 : ∀ (k i : Nat) (tot : Int64), i + k = ((fX6_carryAll σ p3 p4).2.1 1).toNatClampNeg → fX6_by σ p1 p2 p3 p4 = flX6_by_44 σ p1 p2 p3 p4 k i tot → ∀ (ls : Array Slot), lv_has ls 8 [(0, .ref (q 0)), (1, .int p1), (2, .int p2), (3, .int p3), (4, .int p4), (7, .int (nI i)), (5, .long tot)] → W p l e (headSpec (.code yX6_by cX6_by 8 (some .long) :: tb) { frames := 46, cells := 0, slots := 0, locals := 1219 }).room s m (List.toArray [.ref (q 0), .int p1, .int p2, .int p3, .int p4]) below meth c H locs 0 0 (MQ below (xw_Q (some (.long (fX6_by σ p1 p2 p3 p4).1)) (dC, dI) (wT cI cJ q (fX6_by σ p1 p2 p3 p4).2) (aT 30 q)) (List.toArray [.ref (q 0), .int p1, .int p2, .int p3, .int p4]) s 0 0 (aT 30 q)) (F0 m 44 ls []) := by
            intro k
            induction k with
            | zero =>
              intro i tot hik hE ls hl
              refine lv_iload hx hb dX6_by_44 (lv_at hl 5 rfl) ?_
              refine lv_aload_n hx hb dX6_by_46 rfl (lv_at hl 0 rfl) ?_
              refine va_get (D := (dC, dI)) (ci := 6) (v := .ref (q 3)) (C := RX6) (T := TX6) (N := 6) hx hb hts inX6 hown hK hP 0 rfl rfl 1 (by decide) (hts _ fl_X6_19) (fun _ h9 => h9) rfl dX6_by_47 ?_
              refine xc_i (va_runV (As := []) (rest := [.int (nI i)]) ⟨hx, hb, hml, hown, hts⟩ (c_X5_size l dC dI cI cJ q (fX6_carryAll σ p3 p4) ) (cwV 0 hts (gV ml_X6_167 im_X5_size se_X5_size in_X5 co_X5_size) rfl rfl rfl (by decide +kernel) ⟨Nat.le_of_ble_eq_true rfl, Nat.le_of_ble_eq_true rfl⟩) (preV hK hP (pos := 3) (ci := 5) rfl rfl) rfl rfl hl.1 rfl (lv_room (Nat.le_of_ble_eq_true rfl)) dX6_by_50 ⟨Nat.zero_le _, Nat.zero_le _⟩) ?_
              refine lv_icmp_ge (tgt := 93) hx hb dX6_by_53 (by decide) (fun c_53 => ?_) (fun c_53 => ?_)
              · refine lv_lload hx hb dX6_by_93 (lv_at hl 6 rfl) ?_
                have hF : fX6_by σ p1 p2 p3 p4 = (tot, (fX6_carryAll σ p3 p4)) := by rw [hE, flX6_by_44]
                have hP9 : va_P (dC, dI) vwCl (wT cI cJ q (fX6_by σ p1 p2 p3 p4).2) H := by rw [hF]; exact hP
                exact W.lret (v := tot) hx hb hr (fun t ht hW => ⟨(by rw [hF]), by rw [ht]; exact hP9, hS.F ht⟩) hS.2.2 dX6_by_95
              · exact absurd (by rw [hz.1]; exact nI_le (by omega) (by omega)) c_53
            | succ k ih =>
              intro i tot hik hE ls hl
              refine lv_iload hx hb dX6_by_44 (lv_at hl 5 rfl) ?_
              refine lv_aload_n hx hb dX6_by_46 rfl (lv_at hl 0 rfl) ?_
              refine va_get (D := (dC, dI)) (ci := 6) (v := .ref (q 3)) (C := RX6) (T := TX6) (N := 6) hx hb hts inX6 hown hK hP 0 rfl rfl 1 (by decide) (hts _ fl_X6_19) (fun _ h9 => h9) rfl dX6_by_47 ?_
              refine xc_i (va_runV (As := []) (rest := [.int (nI i)]) ⟨hx, hb, hml, hown, hts⟩ (c_X5_size l dC dI cI cJ q (fX6_carryAll σ p3 p4) ) (cwV 0 hts (gV ml_X6_167 im_X5_size se_X5_size in_X5 co_X5_size) rfl rfl rfl (by decide +kernel) ⟨Nat.le_of_ble_eq_true rfl, Nat.le_of_ble_eq_true rfl⟩) (preV hK hP (pos := 3) (ci := 5) rfl rfl) rfl rfl hl.1 rfl (lv_room (Nat.le_of_ble_eq_true rfl)) dX6_by_50 ⟨Nat.zero_le _, Nat.zero_le _⟩) ?_
              refine lv_icmp_ge (tgt := 93) hx hb dX6_by_53 (by decide) (fun c_53 => ?_) (fun c_53 => ?_)
              · exact absurd c_53 (by rw [hz.1]; exact nI_ge (by omega) (by omega))
              · refine lv_aload_n hx hb dX6_by_56 rfl (lv_at hl 0 rfl) ?_
                refine va_get (D := (dC, dI)) (ci := 6) (v := .ref (q 13)) (C := RX6) (T := TX6) (N := 6) hx hb hts inX6 hown hK hP 0 rfl rfl 2 (by decide) (hts _ fl_X6_28) (fun _ h9 => h9) rfl dX6_by_57 ?_
                refine lv_iload hx hb dX6_by_60 (lv_at hl 5 rfl) ?_
                refine lv_iload_n hx hb dX6_by_62 rfl (lv_at hl 1 rfl) ?_
                refine lv_iload_n hx hb dX6_by_63 rfl (lv_at hl 3 rfl) ?_
                refine lv_iload hx hb dX6_by_64 (lv_at hl 4 rfl) ?_
                refine xc_i (va_runV (As := [.int (nI i), .int p1, .int p3, .int p4]) (rest := []) ⟨hx, hb, hml, hown, hts⟩ (c_X4_valueOn l dC dI cI cJ q (fX6_carryAll σ p3 p4) (nI i) p1 p3 p4 (cA_IB hI)) (cwV 4 hts (gV ml_X6_123 im_X4_valueOn se_X4_valueOn in_X4 co_X4_valueOn) rfl rfl rfl (by decide +kernel) ⟨Nat.le_of_ble_eq_true rfl, Nat.le_of_ble_eq_true rfl⟩) (preV hK hP (pos := 13) (ci := 4) rfl rfl) rfl rfl hl.1 rfl (lv_room (Nat.le_of_ble_eq_true rfl)) dX6_by_66 ⟨Nat.zero_le _, Nat.zero_le _⟩) ?_
                refine lv_iload_n hx hb dX6_by_69 rfl (lv_at hl 2 rfl) ?_
                refine lv_icmp_ne (tgt := 87) hx hb dX6_by_70 (by decide) (fun c_70 => ?_) (fun c_70 => ?_)
                · refine lv_iinc (v := nI (i + 1)) (lv' := [(7, .int (nI (i + 1))), (0, .ref (q 0)), (1, .int p1), (2, .int p2), (3, .int p3), (4, .int p4), (5, .long tot)]) hx hb dX6_by_87 hl (k := 5) rfl (nI_1 i) (by decide) rfl (fun ls hl => ?_)
                  refine lv_goto (tgt := 44) hx hb dX6_by_90 (by decide) ?_
                  exact ih (i + 1) tot (by omega) (by rw [hE, flX6_by_44, if_neg c_70]) ls (lv_sub hl [1, 2, 3, 4, 5, 0, 6] rfl)
                · refine lv_lload hx hb dX6_by_73 (lv_at hl 6 rfl) ?_
                  refine lv_aload_n hx hb dX6_by_75 rfl (lv_at hl 0 rfl) ?_
                  refine va_get (D := (dC, dI)) (ci := 6) (v := .ref (q 28)) (C := RX6) (T := TX6) (N := 6) hx hb hts inX6 hown hK hP 0 rfl rfl 4 (by decide) (hts _ fl_X6_44) (fun _ h9 => h9) rfl dX6_by_76 ?_
                  refine lv_iload hx hb dX6_by_79 (lv_at hl 5 rfl) ?_
                  refine xc_l (va_runV (As := [.int (nI i)]) (rest := [.long tot]) ⟨hx, hb, hml, hown, hts⟩ (c_X0_stayingOn l dC dI cI cJ q (fX6_carryAll σ p3 p4) (nI i) (vp_in_nI (by omega) (by decide))) (cwV 1 hts (gV ml_X6_168 im_X0_stayingOn se_X0_stayingOn in_X0 co_X0_stayingOn) rfl rfl rfl (by decide +kernel) ⟨Nat.le_of_ble_eq_true rfl, Nat.le_of_ble_eq_true rfl⟩) (preV hK hP (pos := 28) (ci := 0) rfl rfl) rfl rfl hl.1 rfl (lv_room (Nat.le_of_ble_eq_true rfl)) dX6_by_81 ⟨Nat.zero_le _, Nat.zero_le _⟩) ?_
                  refine lv_ladd hx hb dX6_by_84 ?_
                  refine lv_lstore (lv' := [(5, .long (tot + ((fX6_carryAll σ p3 p4).2.2.1 ((nI i).toNatClampNeg)))), (0, .ref (q 0)), (1, .int p1), (2, .int p2), (3, .int p3), (4, .int p4), (7, .int (nI i))]) hx hb dX6_by_85 hl (by decide) rfl (fun ls hl => ?_)
                  refine lv_iinc (v := nI (i + 1)) (lv' := [(7, .int (nI (i + 1))), (5, .long (tot + ((fX6_carryAll σ p3 p4).2.2.1 ((nI i).toNatClampNeg)))), (0, .ref (q 0)), (1, .int p1), (2, .int p2), (3, .int p3), (4, .int p4)]) hx hb dX6_by_87 hl (k := 6) rfl (nI_1 i) (by decide) rfl (fun ls hl => ?_)
                  refine lv_goto (tgt := 44) hx hb dX6_by_90 (by decide) ?_
                  exact ih (i + 1) (tot + ((fX6_carryAll σ p3 p4).2.2.1 ((nI i).toNatClampNeg))) (by omega) (by rw [hE, flX6_by_44, if_pos c_70]) ls (lv_sub hl [2, 3, 4, 5, 6, 0, 1] rfl)
          exact loop_44 (((fX6_carryAll σ p3 p4).2.1 1).toNatClampNeg) 0 0 (by rw [Nat.zero_add]) (by rw [fX6_by, if_neg c_4, if_neg c_11, if_neg c_18, if_neg c_26]) ls (lv_sub hl [2, 3, 4, 5, 6, 0, 1] rfl)
        · refine lv_lconst (v := 0) hx hb dX6_by_29 (by decide) ?_
          have hF : fX6_by σ p1 p2 p3 p4 = (0, σ) := by rw [fX6_by, if_neg c_4, if_neg c_11, if_neg c_18, if_pos c_26]
          have hP9 : va_P (dC, dI) vwCl (wT cI cJ q (fX6_by σ p1 p2 p3 p4).2) H := by rw [hF]; exact hP
          exact W.lret (v := 0) hx hb hr (fun t ht hW => ⟨(by rw [hF]), by rw [ht]; exact hP9, hS.F ht⟩) hS.2.2 dX6_by_30

def fX6_sum (σ : St) (p1 : Int32) (p2 : Int32) (p3 : Int32) : Int64 × St :=
  (if (fX6_isDay σ p2) = 0 then (0, σ) else (if (fX6_isDay σ p3) = 0 then (0, σ) else (if p1 = 0 then (fX6_sumOfFacts σ p3 0, σ) else (if p1 = 1 then (fX6_sumOfFacts σ p3 1, σ) else (if p1 = 2 then ((fX6_carryAll σ p2 p3).2.2.2, (fX6_carryAll σ p2 p3)) else (0, σ))))))
set_option maxHeartbeats 4000000 in
set_option maxRecDepth 100000 in
theorem c_X6_sum (l : Launch) (dC : Nat → ClassId) (dI : Nat → Nat → Nat) (cI cJ : ClassId) (q : Nat → Nat) (σ : St) (p1 : Int32) (p2 : Int32) (p3 : Int32) (hd : dT 30 q) (hI : IB σ) : Met l yX6_sum (.code yX6_sum cX6_sum 4 (some .long) :: tb) { frames := 46, cells := 0, slots := 0, locals := 1219 } (Pu (dC, dI) (tyC cI cJ) (wT cI cJ q σ) [.ref (q 0), .int p1, .int p2, .int p3]) (xw_Q (some (.long (fX6_sum σ p1 p2 p3).1)) (dC, dI) (wT cI cJ q (fX6_sum σ p1 p2 p3).2) (aT 30 q)) 0 0 (aT 30 q) := by
  refine Met.ofW (cc := cX6_sum) (maxL := 4) (ret := (some .long)) (by decide) rfl ?_
  intro p e s m args below meth c s₁ B hml hv
  obtain ⟨rfl, hP, hK⟩ := hv
  have hx := B.exec
  have hb := B.bytes
  have hr := B.returns
  have hts0 := atoms_spec (ws := .code yX6_sum cX6_sum 4 (some .long) :: tb) B.pre
  have hts : ∀ w ∈ tb, w.before _ s = true := fun w hw => hts0 w (List.mem_cons_of_mem _ hw)
  have hown : s.vm.findClass RX6 = some m.cls := findClass_of_methodNamed B.named
  have hlocks := B.notSynchronized
  have hl := lv_entry ([.ref (q 0), .int p1, .int p2, .int p3]) (n := 4) (Nat.le_of_ble_eq_true rfl)
  rw [lg_entry_eq]
  generalize (lg_sl ([.ref (q 0), .int p1, .int p2, .int p3]) ++ List.replicate (4 - (lg_sl ([.ref (q 0), .int p1, .int p2, .int p3])).length) Slot.unset).toArray = ls at hl ⊢
  have hl : lv_has ls 4 [(0, .ref (q 0)), (1, .int p1), (2, .int p2), (3, .int p3)] := hl
  obtain ⟨H, hHe⟩ : ∃ H, s.heap = H := ⟨_, rfl⟩
  rw [hHe] at hP ⊢
  obtain ⟨locs, hLe⟩ : ∃ x : List Loc, ([] : List Loc) = x := ⟨_, rfl⟩
  rw [hLe]
  have hS : va_S (aT 30 q) s.heap H locs := by rw [← hHe, ← hLe]; exact va_S.rf
  refine lv_iload_n hx hb dX6_sum_0 rfl (lv_at hl 2 rfl) ?_
  refine xc_i (va_runS (As := [.int p2]) (rest := []) ⟨hx, hb, hml, hown, hts⟩ (c_X6_isDay l dC dI cI cJ q σ p2) (va_cwS 1 hts (gS ml_X6_56 st_X6_isDay in_X6 co_X6_isDay) rfl rfl rfl (by decide +kernel) ⟨Nat.le_of_ble_eq_true rfl, Nat.le_of_ble_eq_true rfl⟩) (preS hK hP) rfl rfl hl.1 rfl (lv_room (Nat.le_of_ble_eq_true rfl)) dX6_sum_1 ⟨Nat.zero_le _, Nat.zero_le _⟩) ?_
  refine lv_if_eq (tgt := 14) hx hb dX6_sum_4 (by decide) (fun c_4 => ?_) (fun c_4 => ?_)
  · refine lv_lconst (v := 0) hx hb dX6_sum_14 (by decide) ?_
    have hF : fX6_sum σ p1 p2 p3 = (0, σ) := by rw [fX6_sum, if_pos c_4]
    have hP9 : va_P (dC, dI) vwCl (wT cI cJ q (fX6_sum σ p1 p2 p3).2) H := by rw [hF]; exact hP
    exact W.lret (v := 0) hx hb hr (fun t ht hW => ⟨(by rw [hF]), by rw [ht]; exact hP9, hS.F ht⟩) hS.2.2 dX6_sum_15
  · refine lv_iload_n hx hb dX6_sum_7 rfl (lv_at hl 3 rfl) ?_
    refine xc_i (va_runS (As := [.int p3]) (rest := []) ⟨hx, hb, hml, hown, hts⟩ (c_X6_isDay l dC dI cI cJ q σ p3) (va_cwS 1 hts (gS ml_X6_56 st_X6_isDay in_X6 co_X6_isDay) rfl rfl rfl (by decide +kernel) ⟨Nat.le_of_ble_eq_true rfl, Nat.le_of_ble_eq_true rfl⟩) (preS hK hP) rfl rfl hl.1 rfl (lv_room (Nat.le_of_ble_eq_true rfl)) dX6_sum_8 ⟨Nat.zero_le _, Nat.zero_le _⟩) ?_
    refine lv_if_ne (tgt := 16) hx hb dX6_sum_11 (by decide) (fun c_11 => ?_) (fun c_11 => ?_)
    · refine lv_iload_n hx hb dX6_sum_16 rfl (lv_at hl 1 rfl) ?_
      by_cases c_17_0 : p1 = 0
      · refine xs_in (tgt := 44) hx hb 0 c_17_0 dX6_sum_17 (by decide) (by decide) rfl (by decide) ?_
        refine lv_aload_n hx hb dX6_sum_44 rfl (lv_at hl 0 rfl) ?_
        refine lv_iload_n hx hb dX6_sum_45 rfl (lv_at hl 3 rfl) ?_
        refine lv_iconst (v := 0) hx hb dX6_sum_46 (by decide) ?_
        refine xc_l (va_runV (As := [.int p3, .int 0]) (rest := []) ⟨hx, hb, hml, hown, hts⟩ (c_X6_sumOfFacts l dC dI cI cJ q σ p3 0 (by assumption)) (cwV 2 hts (gV ml_X6_172 im_X6_sumOfFacts se_X6_sumOfFacts in_X6 co_X6_sumOfFacts) rfl rfl rfl (by decide +kernel) ⟨Nat.le_of_ble_eq_true rfl, Nat.le_of_ble_eq_true rfl⟩) (preV hK hP (pos := 0) (ci := 6) rfl rfl) rfl rfl hl.1 rfl (lv_room (Nat.le_of_ble_eq_true rfl)) dX6_sum_47 ⟨Nat.zero_le _, Nat.zero_le _⟩) ?_
        have hF : fX6_sum σ p1 p2 p3 = (fX6_sumOfFacts σ p3 0, σ) := by rw [fX6_sum, if_neg c_4, if_neg c_11, if_pos c_17_0]
        have hP9 : va_P (dC, dI) vwCl (wT cI cJ q (fX6_sum σ p1 p2 p3).2) H := by rw [hF]; exact hP
        exact W.lret (v := fX6_sumOfFacts σ p3 0) hx hb hr (fun t ht hW => ⟨(by rw [hF]), by rw [ht]; exact hP9, hS.F ht⟩) hS.2.2 dX6_sum_50
      by_cases c_17_1 : p1 = 1
      · refine xs_in (tgt := 51) hx hb 1 c_17_1 dX6_sum_17 (by decide) (by decide) rfl (by decide) ?_
        refine lv_aload_n hx hb dX6_sum_51 rfl (lv_at hl 0 rfl) ?_
        refine lv_iload_n hx hb dX6_sum_52 rfl (lv_at hl 3 rfl) ?_
        refine lv_iconst (v := 1) hx hb dX6_sum_53 (by decide) ?_
        refine xc_l (va_runV (As := [.int p3, .int 1]) (rest := []) ⟨hx, hb, hml, hown, hts⟩ (c_X6_sumOfFacts l dC dI cI cJ q σ p3 1 (by assumption)) (cwV 2 hts (gV ml_X6_172 im_X6_sumOfFacts se_X6_sumOfFacts in_X6 co_X6_sumOfFacts) rfl rfl rfl (by decide +kernel) ⟨Nat.le_of_ble_eq_true rfl, Nat.le_of_ble_eq_true rfl⟩) (preV hK hP (pos := 0) (ci := 6) rfl rfl) rfl rfl hl.1 rfl (lv_room (Nat.le_of_ble_eq_true rfl)) dX6_sum_54 ⟨Nat.zero_le _, Nat.zero_le _⟩) ?_
        have hF : fX6_sum σ p1 p2 p3 = (fX6_sumOfFacts σ p3 1, σ) := by rw [fX6_sum, if_neg c_4, if_neg c_11, if_neg c_17_0, if_pos c_17_1]
        have hP9 : va_P (dC, dI) vwCl (wT cI cJ q (fX6_sum σ p1 p2 p3).2) H := by rw [hF]; exact hP
        exact W.lret (v := fX6_sumOfFacts σ p3 1) hx hb hr (fun t ht hW => ⟨(by rw [hF]), by rw [ht]; exact hP9, hS.F ht⟩) hS.2.2 dX6_sum_57
      by_cases c_17_2 : p1 = 2
      · refine xs_in (tgt := 58) hx hb 2 c_17_2 dX6_sum_17 (by decide) (by decide) rfl (by decide) ?_
        refine lv_aload_n hx hb dX6_sum_58 rfl (lv_at hl 0 rfl) ?_
        refine lv_iload_n hx hb dX6_sum_59 rfl (lv_at hl 2 rfl) ?_
        refine lv_iload_n hx hb dX6_sum_60 rfl (lv_at hl 3 rfl) ?_
        refine xw_c (va_runV (As := [.int p2, .int p3]) (rest := []) ⟨hx, hb, hml, hown, hts⟩ (c_X6_carryAll l dC dI cI cJ q σ p2 p3 (by assumption) (by assumption)) (cwV 2 hts (gV ml_X6_164 im_X6_carryAll se_X6_carryAll in_X6 co_X6_carryAll) rfl rfl rfl (by decide +kernel) ⟨Nat.le_of_ble_eq_true rfl, Nat.le_of_ble_eq_true rfl⟩) (preV hK hP (pos := 0) (ci := 6) rfl rfl) rfl rfl hl.1 rfl (lv_room (Nat.le_of_ble_eq_true rfl)) dX6_sum_61 ⟨Nat.zero_le _, Nat.zero_le _⟩) hS (fun _ h => h) (fun H locs hP _ _ hS => ?_)
        have hP : va_P (dC, dI) vwCl (wT cI cJ q (fX6_carryAll σ p2 p3)) H := hP
        refine W.eq (g2 := F0 m 64 ls []) rfl ?_
        refine lv_aload_n hx hb dX6_sum_64 rfl (lv_at hl 0 rfl) ?_
        refine va_get (D := (dC, dI)) (ci := 6) (v := .ref (q 28)) (C := RX6) (T := TX6) (N := 6) hx hb hts inX6 hown hK hP 0 rfl rfl 4 (by decide) (hts _ fl_X6_44) (fun _ h9 => h9) rfl dX6_sum_65 ?_
        refine xc_l (va_runV (As := []) (rest := []) ⟨hx, hb, hml, hown, hts⟩ (c_X0_nowhere l dC dI cI cJ q (fX6_carryAll σ p2 p3) ) (cwV 0 hts (gV ml_X6_176 im_X0_nowhere se_X0_nowhere in_X0 co_X0_nowhere) rfl rfl rfl (by decide +kernel) ⟨Nat.le_of_ble_eq_true rfl, Nat.le_of_ble_eq_true rfl⟩) (preV hK hP (pos := 28) (ci := 0) rfl rfl) rfl rfl hl.1 rfl (lv_room (Nat.le_of_ble_eq_true rfl)) dX6_sum_68 ⟨Nat.zero_le _, Nat.zero_le _⟩) ?_
        have hF : fX6_sum σ p1 p2 p3 = ((fX6_carryAll σ p2 p3).2.2.2, (fX6_carryAll σ p2 p3)) := by rw [fX6_sum, if_neg c_4, if_neg c_11, if_neg c_17_0, if_neg c_17_1, if_pos c_17_2]
        have hP9 : va_P (dC, dI) vwCl (wT cI cJ q (fX6_sum σ p1 p2 p3).2) H := by rw [hF]; exact hP
        exact W.lret (v := (fX6_carryAll σ p2 p3).2.2.2) hx hb hr (fun t ht hW => ⟨(by rw [hF]), by rw [ht]; exact hP9, hS.F ht⟩) hS.2.2 dX6_sum_71
      refine lv_tableOut (tgt := 72) hx hb dX6_sum_17 (xs_out (n := 3) (by decide) (fun k hk => by
          match k, hk with
          | 0, _ => exact c_17_0
          | 1, _ => exact c_17_1
          | 2, _ => exact c_17_2
          | k + 3, h => exact absurd h (by omega))) (by decide) ?_
      refine lv_lconst (v := 0) hx hb dX6_sum_72 (by decide) ?_
      have hF : fX6_sum σ p1 p2 p3 = (0, σ) := by rw [fX6_sum, if_neg c_4, if_neg c_11, if_neg c_17_0, if_neg c_17_1, if_neg c_17_2]
      have hP9 : va_P (dC, dI) vwCl (wT cI cJ q (fX6_sum σ p1 p2 p3).2) H := by rw [hF]; exact hP
      exact W.lret (v := 0) hx hb hr (fun t ht hW => ⟨(by rw [hF]), by rw [ht]; exact hP9, hS.F ht⟩) hS.2.2 dX6_sum_73
    · refine lv_lconst (v := 0) hx hb dX6_sum_14 (by decide) ?_
      have hF : fX6_sum σ p1 p2 p3 = (0, σ) := by rw [fX6_sum, if_neg c_4, if_pos c_11]
      have hP9 : va_P (dC, dI) vwCl (wT cI cJ q (fX6_sum σ p1 p2 p3).2) H := by rw [hF]; exact hP
      exact W.lret (v := 0) hx hb hr (fun t ht hW => ⟨(by rw [hF]), by rw [ht]; exact hP9, hS.F ht⟩) hS.2.2 dX6_sum_15
