def flX0_start_17 (σ : St) (p1 : Int32) (p2 : Int32) : Nat → Nat → St → St
  | 0, i, σ1 => σ1
  | k + 1, i, σ1 => flX0_start_17 σ p1 p2 k (i + 1) (sL σ1 ((nI i).toNatClampNeg) 0)
def fX0_start (σ : St) (p1 : Int32) (p2 : Int32) : St :=
  flX0_start_17 σ p1 p2 ((40 : Int32).toNatClampNeg) 0 (sZ (sV (sV σ 6 p1) 7 p2) 0)
set_option maxHeartbeats 4000000 in
set_option maxRecDepth 100000 in
theorem c_X0_start (l : Launch) (dC : Nat → ClassId) (dI : Nat → Nat → Nat) (cI cJ : ClassId) (q : Nat → Nat) (σ : St) (p1 : Int32) (p2 : Int32) (hd : dT 30 q) : Met l yX0_start (.code yX0_start cX0_start 4 none :: tb) { frames := 0, cells := 0, slots := 0, locals := 0 } (Pu (dC, dI) (tyC cI cJ) (wT cI cJ q σ) [.ref (q 28), .int p1, .int p2]) (xw_Q none (dC, dI) (wT cI cJ q (fX0_start σ p1 p2)) (aT 30 q)) 0 0 (aT 30 q) := by
  refine Met.ofW (cc := cX0_start) (maxL := 4) (ret := none) (by decide) rfl ?_
  intro p e s m args below meth c s₁ B hml hv
  obtain ⟨rfl, hP, hK⟩ := hv
  have hx := B.exec
  have hb := B.bytes
  have hr := B.returns
  have hts0 := atoms_spec (ws := .code yX0_start cX0_start 4 none :: tb) B.pre
  have hts : ∀ w ∈ tb, w.before _ s = true := fun w hw => hts0 w (List.mem_cons_of_mem _ hw)
  have hown : s.vm.findClass RX0 = some m.cls := findClass_of_methodNamed B.named
  have hlocks := B.notSynchronized
  have hl := lv_entry ([.ref (q 28), .int p1, .int p2]) (n := 4) (Nat.le_of_ble_eq_true rfl)
  rw [lg_entry_eq]
  generalize (lg_sl ([.ref (q 28), .int p1, .int p2]) ++ List.replicate (4 - (lg_sl ([.ref (q 28), .int p1, .int p2])).length) Slot.unset).toArray = ls at hl ⊢
  have hl : lv_has ls 4 [(0, .ref (q 28)), (1, .int p1), (2, .int p2)] := hl
  obtain ⟨H, hHe⟩ : ∃ H, s.heap = H := ⟨_, rfl⟩
  rw [hHe] at hP ⊢
  obtain ⟨locs, hLe⟩ : ∃ x : List Loc, ([] : List Loc) = x := ⟨_, rfl⟩
  rw [hLe]
  have hS : va_S (aT 30 q) s.heap H locs := by rw [← hHe, ← hLe]; exact va_S.rf
  refine lv_aload_n hx hb dX0_start_0 rfl (lv_at hl 0 rfl) ?_
  refine lv_iload_n hx hb dX0_start_1 rfl (lv_at hl 1 rfl) ?_
  refine va_put (D := (dC, dI)) (ci := 0) (v := .int p1) (ty := .int) (C := RX0) (T := TX0) (N := 5) hx hb hts inX0 tyX0 tyX0_ok nmX0 hown hK hP (wT_D hd) hS 28 rfl rfl 3 (by decide) (hts _ fl_X0_23) (fun _ h9 => h9) rfl (by decide +kernel) rfl rfl (Nat.le_of_ble_eq_true rfl) dX0_start_2 (fun H locs hP _ hS => ?_)
  have hP : va_P (dC, dI) vwCl (wT cI cJ q (sV σ 6 p1)) H := hP
  refine lv_aload_n hx hb dX0_start_5 rfl (lv_at hl 0 rfl) ?_
  refine lv_iload_n hx hb dX0_start_6 rfl (lv_at hl 2 rfl) ?_
  refine va_put (D := (dC, dI)) (ci := 0) (v := .int p2) (ty := .int) (C := RX0) (T := TX0) (N := 5) hx hb hts inX0 tyX0 tyX0_ok nmX0 hown hK hP (wT_D hd) hS 28 rfl rfl 4 (by decide) (hts _ fl_X0_27) (fun _ h9 => h9) rfl (by decide +kernel) rfl rfl (Nat.le_of_ble_eq_true rfl) dX0_start_7 (fun H locs hP _ hS => ?_)
  have hP : va_P (dC, dI) vwCl (wT cI cJ q (sV (sV σ 6 p1) 7 p2)) H := hP
  refine lv_aload_n hx hb dX0_start_10 rfl (lv_at hl 0 rfl) ?_
  refine lv_lconst (v := 0) hx hb dX0_start_11 (by decide) ?_
  refine va_put (D := (dC, dI)) (ci := 0) (v := .long 0) (ty := .long) (C := RX0) (T := TX0) (N := 5) hx hb hts inX0 tyX0 tyX0_ok nmX0 hown hK hP (wT_D hd) hS 28 rfl rfl 2 (by decide) (hts _ fl_X0_19) (fun _ h9 => h9) rfl (by decide +kernel) rfl rfl (Nat.le_of_ble_eq_true rfl) dX0_start_12 (fun H locs hP _ hS => ?_)
  have hP : va_P (dC, dI) vwCl (wT cI cJ q (sZ (sV (sV σ 6 p1) 7 p2) 0)) H := hP
  refine lv_iconst (v := 0) hx hb dX0_start_15 (by decide) ?_
  refine lv_istore_n (lv' := [(3, .int 0), (0, .ref (q 28)), (1, .int p1), (2, .int p2)]) hx hb dX0_start_16 rfl hl (by decide) rfl (fun ls hl => ?_)
  have hb40 : (40 : Int32).toNatClampNeg = 40 := by decide
  have loop_17 : ∀ (k i : Nat) (σ1 : St) (H : Heap) (locs : List Loc), i + k = (40 : Int32).toNatClampNeg → szI (40 : Int32) 40 → fX0_start σ p1 p2 = flX0_start_17 σ p1 p2 k i σ1 → ∀ (ls : Array Slot), lv_has ls 4 [(0, .ref (q 28)), (1, .int p1), (2, .int p2), (3, .int (nI i))] → va_P (dC, dI) vwCl (wT cI cJ q σ1) H → va_S (aT 30 q) s.heap H locs → W p l e (headSpec (.code yX0_start cX0_start 4 none :: tb) { frames := 0, cells := 0, slots := 0, locals := 0 }).room s m (List.toArray [.ref (q 28), .int p1, .int p2]) below meth c H locs 0 0 (MQ below (xw_Q none (dC, dI) (wT cI cJ q (fX0_start σ p1 p2)) (aT 30 q)) (List.toArray [.ref (q 28), .int p1, .int p2]) s 0 0 (aT 30 q)) (F0 m 17 ls []) := by
    intro k
    induction k with
    | zero =>
      intro i σ1 H locs hik hz hE ls hl hP hS
      have hz2 := hz.2
      refine lv_iload_n hx hb dX0_start_17 rfl (lv_at hl 3 rfl) ?_
      refine lv_bipush (v := 40) hx hb dX0_start_18 (by decide) ?_
      refine lv_icmp_ge (tgt := 36) hx hb dX0_start_20 (by decide) (fun c_20 => ?_) (fun c_20 => ?_)
      · have hF : fX0_start σ p1 p2 = σ1 := by rw [hE, flX0_start_17]
        have hP9 : va_P (dC, dI) vwCl (wT cI cJ q (fX0_start σ p1 p2)) H := by rw [hF]; exact hP
        exact W.vret hx hb hr (fun t ht hW => ⟨rfl, by rw [ht]; exact hP9, hS.F ht⟩) hS.2.2 dX0_start_36
      · exact absurd (by rw [hz.1]; exact nI_le (by omega) (by omega)) c_20
    | succ k ih =>
      intro i σ1 H locs hik hz hE ls hl hP hS
      have hz2 := hz.2
      refine lv_iload_n hx hb dX0_start_17 rfl (lv_at hl 3 rfl) ?_
      refine lv_bipush (v := 40) hx hb dX0_start_18 (by decide) ?_
      refine lv_icmp_ge (tgt := 36) hx hb dX0_start_20 (by decide) (fun c_20 => ?_) (fun c_20 => ?_)
      · exact absurd c_20 (by rw [hz.1]; exact nI_ge (by omega) (by omega))
      · refine lv_aload_n hx hb dX0_start_23 rfl (lv_at hl 0 rfl) ?_
        refine va_get (D := (dC, dI)) (ci := 0) (v := .ref (q 29)) (C := RX0) (T := TX0) (N := 5) hx hb hts inX0 hown hK hP 28 rfl rfl 1 (by decide) (hts _ fl_X0_15) (fun _ h9 => h9) rfl dX0_start_24 ?_
        refine lv_iload_n hx hb dX0_start_27 rfl (lv_at hl 3 rfl) ?_
        refine lv_lconst (v := 0) hx hb dX0_start_28 (by decide) ?_
        refine va_last hx hb hK hP (wT_D hd) hS 29 1 rfl rfl (vp_in_nI (by omega) (by decide)) dX0_start_29 (fun H locs hP _ hS => ?_)
        have hP : va_P (dC, dI) vwCl (wT cI cJ q (sL σ1 ((nI i).toNatClampNeg) 0)) H := hP
        refine lv_iinc (v := nI (i + 1)) (lv' := [(3, .int (nI (i + 1))), (0, .ref (q 28)), (1, .int p1), (2, .int p2)]) hx hb dX0_start_30 hl (k := 3) rfl (nI_1 i) (by decide) rfl (fun ls hl => ?_)
        refine lv_goto (tgt := 17) hx hb dX0_start_33 (by decide) ?_
        exact ih (i + 1) _ H locs (by omega) hz (by rw [hE, flX0_start_17]) ls (lv_sub hl [1, 2, 3, 0] rfl) hP hS
  exact loop_17 ((40 : Int32).toNatClampNeg) 0 _ H locs (by rw [Nat.zero_add]) ⟨by decide, by decide⟩ (by rw [fX0_start]) ls (lv_sub hl [1, 2, 3, 0] rfl) hP hS

set_option maxHeartbeats 4000000 in
set_option maxRecDepth 100000 in
theorem c_X0_stayingOn (l : Launch) (dC : Nat → ClassId) (dI : Nat → Nat → Nat) (cI cJ : ClassId) (q : Nat → Nat) (σ : St) (p1 : Int32) (hT : vp_in p1 40) : Met l yX0_stayingOn (.code yX0_stayingOn cX0_stayingOn 2 (some .long) :: tb) { frames := 0, cells := 0, slots := 0, locals := 0 } (Pu (dC, dI) (tyC cI cJ) (wT cI cJ q σ) [.ref (q 28), .int p1]) (vp_Sl (fun r => r = σ.2.2.1 p1.toNatClampNeg)) 0 0 (fun _ => False) := by
  refine Met.ofW (cc := cX0_stayingOn) (maxL := 2) (ret := (some .long)) (by decide) rfl ?_
  intro p e s m args below meth c s₁ B hml hv
  obtain ⟨rfl, hP, hK⟩ := hv
  have hx := B.exec
  have hb := B.bytes
  have hr := B.returns
  have hts0 := atoms_spec (ws := .code yX0_stayingOn cX0_stayingOn 2 (some .long) :: tb) B.pre
  have hts : ∀ w ∈ tb, w.before _ s = true := fun w hw => hts0 w (List.mem_cons_of_mem _ hw)
  have hown : s.vm.findClass RX0 = some m.cls := findClass_of_methodNamed B.named
  have hlocks := B.notSynchronized
  have hl := lv_entry ([.ref (q 28), .int p1]) (n := 2) (Nat.le_of_ble_eq_true rfl)
  rw [lg_entry_eq]
  generalize (lg_sl ([.ref (q 28), .int p1]) ++ List.replicate (2 - (lg_sl ([.ref (q 28), .int p1])).length) Slot.unset).toArray = ls at hl ⊢
  have hl : lv_has ls 2 [(0, .ref (q 28)), (1, .int p1)] := hl
  refine lv_aload_n hx hb dX0_stayingOn_0 rfl (lv_at hl 0 rfl) ?_
  refine va_get (D := (dC, dI)) (ci := 0) (v := .ref (q 29)) (C := RX0) (T := TX0) (N := 5) hx hb hts inX0 hown hK hP 28 rfl rfl 1 (by decide) (hts _ fl_X0_15) (fun _ h9 => h9) rfl dX0_stayingOn_1 ?_
  refine lv_iload_n hx hb dX0_stayingOn_4 rfl (lv_at hl 1 rfl) ?_
  refine va_lald hx hb hK hP 29 1 rfl rfl (by assumption) dX0_stayingOn_5 ?_
  exact W.lret (v := σ.2.2.1 p1.toNatClampNeg) hx hb hr (fun t ht hW => ⟨_, rfl, rfl, ht⟩) (fun _ h => absurd h List.not_mem_nil) dX0_stayingOn_6

set_option maxHeartbeats 4000000 in
set_option maxRecDepth 100000 in
theorem c_X0_nowhere (l : Launch) (dC : Nat → ClassId) (dI : Nat → Nat → Nat) (cI cJ : ClassId) (q : Nat → Nat) (σ : St) : Met l yX0_nowhere (.code yX0_nowhere cX0_nowhere 1 (some .long) :: tb) { frames := 0, cells := 0, slots := 0, locals := 0 } (Pu (dC, dI) (tyC cI cJ) (wT cI cJ q σ) [.ref (q 28)]) (vp_Sl (fun r => r = σ.2.2.2)) 0 0 (fun _ => False) := by
  refine Met.ofW (cc := cX0_nowhere) (maxL := 1) (ret := (some .long)) (by decide) rfl ?_
  intro p e s m args below meth c s₁ B hml hv
  obtain ⟨rfl, hP, hK⟩ := hv
  have hx := B.exec
  have hb := B.bytes
  have hr := B.returns
  have hts0 := atoms_spec (ws := .code yX0_nowhere cX0_nowhere 1 (some .long) :: tb) B.pre
  have hts : ∀ w ∈ tb, w.before _ s = true := fun w hw => hts0 w (List.mem_cons_of_mem _ hw)
  have hown : s.vm.findClass RX0 = some m.cls := findClass_of_methodNamed B.named
  have hlocks := B.notSynchronized
  have hl := lv_entry ([.ref (q 28)]) (n := 1) (Nat.le_of_ble_eq_true rfl)
  rw [lg_entry_eq]
  generalize (lg_sl ([.ref (q 28)]) ++ List.replicate (1 - (lg_sl ([.ref (q 28)])).length) Slot.unset).toArray = ls at hl ⊢
  have hl : lv_has ls 1 [(0, .ref (q 28))] := hl
  refine lv_aload_n hx hb dX0_nowhere_0 rfl (lv_at hl 0 rfl) ?_
  refine va_get (D := (dC, dI)) (ci := 0) (v := .long σ.2.2.2) (C := RX0) (T := TX0) (N := 5) hx hb hts inX0 hown hK hP 28 rfl rfl 2 (by decide) (hts _ fl_X0_19) (fun _ h9 => h9) rfl dX0_nowhere_1 ?_
  exact W.lret (v := σ.2.2.2) hx hb hr (fun t ht hW => ⟨_, rfl, rfl, ht⟩) (fun _ h => absurd h List.not_mem_nil) dX0_nowhere_4

def fX0_carry : Nat → St → Int32 → Int32 → Int32 → St
  | 0, σ, p1, p2, p3 => σ
  | k + 1, σ, p1, p2, p3 => (if p2 = 0 then σ else (if 40 ≤ p3 then σ else (if (fX5_has σ p1) = 0 then σ else (if (fX5_livesOn σ p1 (σ.2.1 6) (σ.2.1 7)) = 0 then (if (σ.1 1 p1.toNatClampNeg) ≤ (σ.2.1 6) then (if (fX5_endingOf σ p1 (σ.2.1 7)) = 2 then (fX0_carry k (fX0_carry k σ (fX5_heirOf σ p1 (σ.2.1 7)) (fX5_firstShareOf σ p1 p2) (p3 + 1)) ((fX5_heirOf σ p1 (σ.2.1 7)) + 1) (p2 - (fX5_firstShareOf σ p1 p2)) (p3 + 1)) else (if (fX5_endingOf σ p1 (σ.2.1 7)) = 3 then (fX0_carry k σ (fX5_heirOf σ p1 (σ.2.1 7)) p2 (p3 + 1)) else (sZ σ (σ.2.2.2 + p2.toInt64)))) else (sZ σ (σ.2.2.2 + p2.toInt64))) else (sL σ p1.toNatClampNeg ((σ.2.2.1 p1.toNatClampNeg) + p2.toInt64))))))
theorem carry_keep : ∀ (k : Nat) (σ : St) (a b d : Int32), (fX0_carry k σ a b d).1 = σ.1 ∧ (fX0_carry k σ a b d).2.1 = σ.2.1 := by
  intro k
  induction k with
  | zero => intro σ a b d; exact ⟨rfl, rfl⟩
  | succ k ih =>
    intro σ a b d
    rw [fX0_carry]
    repeat' split
    all_goals first | exact ⟨rfl, rfl⟩ | exact ih _ _ _ _ | exact ⟨(ih _ _ _ _).1.trans (ih _ _ _ _).1, (ih _ _ _ _).2.trans (ih _ _ _ _).2⟩
theorem carry_IB {k : Nat} {σ : St} {a b d : Int32} (h : IB σ) : IB (fX0_carry k σ a b d) := IB_congr (carry_keep k σ a b d).1 (carry_keep k σ a b d).2 h
theorem dp_s {p : Int32} {k : Nat} (h : ∃ d : Nat, p = nI d ∧ 40 ≤ d + (k + 1) ∧ d ≤ 40) (c : ¬ 40 ≤ p) : ∃ d : Nat, p + 1 = nI d ∧ 40 ≤ d + k ∧ d ≤ 40 := by
  obtain ⟨d, rfl, h1, h2⟩ := h
  have : d < 40 := by
    rcases Nat.lt_or_ge d 40 with q | q
    · exact q
    · exact absurd (nI_le q (by omega) : nI 40 ≤ nI d) c
  exact ⟨d + 1, nI_1 d, by omega, by omega⟩
theorem dp_0 {p : Int32} (h : ∃ d : Nat, p = nI d ∧ 40 ≤ d + 0 ∧ d ≤ 40) : 40 ≤ p := by
  obtain ⟨d, rfl, h1, h2⟩ := h
  exact (nI_le (by omega) (by omega) : nI 40 ≤ nI d)

set_option maxHeartbeats 4000000 in
set_option maxRecDepth 100000 in
theorem c_X0_carry (l : Launch) (dC : Nat → ClassId) (dI : Nat → Nat → Nat) (cI cJ : ClassId) (q : Nat → Nat) (hd : dT 30 q) : ∀ (k : Nat) (σ : St) (p1 : Int32) (p2 : Int32) (p3 : Int32) (hI : IB σ) (hk : ∃ d : Nat, p3 = nI d ∧ 40 ≤ d + k ∧ d ≤ 40), Met l yX0_carry (.code yX0_carry cX0_carry 8 none :: tb) { frames := 3 + k, cells := 0, slots := 0, locals := 67 + 27 * k } (Pu (dC, dI) (tyC cI cJ) (wT cI cJ q σ) [.ref (q 28), .int p1, .int p2, .int p3]) (xw_Q none (dC, dI) (wT cI cJ q (fX0_carry k σ p1 p2 p3)) (aT 30 q)) 0 0 (aT 30 q) := by
  intro k
  induction k with
  | zero =>
    intro σ p1 p2 p3 hI hk
    refine Met.ofW (cc := cX0_carry) (maxL := 8) (ret := none) (by decide) rfl ?_
    intro p e s m args below meth c s₁ B hml hv
    obtain ⟨rfl, hP, hK⟩ := hv
    have hx := B.exec
    have hb := B.bytes
    have hr := B.returns
    have hts0 := atoms_spec (ws := .code yX0_carry cX0_carry 8 none :: tb) B.pre
    have hts : ∀ w ∈ tb, w.before _ s = true := fun w hw => hts0 w (List.mem_cons_of_mem _ hw)
    have hown : s.vm.findClass RX0 = some m.cls := findClass_of_methodNamed B.named
    have hlocks := B.notSynchronized
    have hl := lv_entry ([.ref (q 28), .int p1, .int p2, .int p3]) (n := 8) (Nat.le_of_ble_eq_true rfl)
    rw [lg_entry_eq]
    generalize (lg_sl ([.ref (q 28), .int p1, .int p2, .int p3]) ++ List.replicate (8 - (lg_sl ([.ref (q 28), .int p1, .int p2, .int p3])).length) Slot.unset).toArray = ls at hl ⊢
    have hl : lv_has ls 8 [(0, .ref (q 28)), (1, .int p1), (2, .int p2), (3, .int p3)] := hl
    obtain ⟨H, hHe⟩ : ∃ H, s.heap = H := ⟨_, rfl⟩
    rw [hHe] at hP ⊢
    obtain ⟨locs, hLe⟩ : ∃ x : List Loc, ([] : List Loc) = x := ⟨_, rfl⟩
    rw [hLe]
    have hS : va_S (aT 30 q) s.heap H locs := by rw [← hHe, ← hLe]; exact va_S.rf
    refine lv_aload_n hx hb dX0_carry_0 rfl (lv_at hl 0 rfl) ?_
    refine va_get (D := (dC, dI)) (ci := 0) (v := .ref (q 3)) (C := RX0) (T := TX0) (N := 5) hx hb hts inX0 hown hK hP 28 rfl rfl 0 (by decide) (hts _ fl_X0_9) (fun _ h9 => h9) rfl dX0_carry_1 ?_
    refine lv_astore (lv' := [(4, .ref (q 3)), (0, .ref (q 28)), (1, .int p1), (2, .int p2), (3, .int p3)]) hx hb dX0_carry_4 hl (by decide) rfl (fun ls hl => ?_)
    refine lv_iload_n hx hb dX0_carry_6 rfl (lv_at hl 3 rfl) ?_
    refine lv_if_eq (tgt := 25) hx hb dX0_carry_7 (by decide) (fun c_7 => ?_) (fun c_7 => ?_)
    · have hF : fX0_carry 0 σ p1 p2 p3 = σ := by rw [fX0_carry]
      have hP9 : va_P (dC, dI) vwCl (wT cI cJ q (fX0_carry 0 σ p1 p2 p3)) H := by rw [hF]; exact hP
      exact W.vret hx hb hr (fun t ht hW => ⟨rfl, by rw [ht]; exact hP9, hS.F ht⟩) hS.2.2 dX0_carry_25
    · refine lv_iload_n hx hb dX0_carry_10 rfl (lv_at hl 4 rfl) ?_
      refine lv_bipush (v := 40) hx hb dX0_carry_11 (by decide) ?_
      refine lv_icmp_ge (tgt := 25) hx hb dX0_carry_13 (by decide) (fun c_13 => ?_) (fun c_13 => ?_)
      · have hF : fX0_carry 0 σ p1 p2 p3 = σ := by rw [fX0_carry]
        have hP9 : va_P (dC, dI) vwCl (wT cI cJ q (fX0_carry 0 σ p1 p2 p3)) H := by rw [hF]; exact hP
        exact W.vret hx hb hr (fun t ht hW => ⟨rfl, by rw [ht]; exact hP9, hS.F ht⟩) hS.2.2 dX0_carry_25
      · exact absurd (dp_0 hk) c_13
  | succ k ih =>
    intro σ p1 p2 p3 hI hk
    refine Met.ofW (cc := cX0_carry) (maxL := 8) (ret := none) (by decide) rfl ?_
    intro p e s m args below meth c s₁ B hml hv
    obtain ⟨rfl, hP, hK⟩ := hv
    have hx := B.exec
    have hb := B.bytes
    have hr := B.returns
    have hts0 := atoms_spec (ws := .code yX0_carry cX0_carry 8 none :: tb) B.pre
    have hts : ∀ w ∈ tb, w.before _ s = true := fun w hw => hts0 w (List.mem_cons_of_mem _ hw)
    have hown : s.vm.findClass RX0 = some m.cls := findClass_of_methodNamed B.named
    have hlocks := B.notSynchronized
    have hl := lv_entry ([.ref (q 28), .int p1, .int p2, .int p3]) (n := 8) (Nat.le_of_ble_eq_true rfl)
    rw [lg_entry_eq]
    generalize (lg_sl ([.ref (q 28), .int p1, .int p2, .int p3]) ++ List.replicate (8 - (lg_sl ([.ref (q 28), .int p1, .int p2, .int p3])).length) Slot.unset).toArray = ls at hl ⊢
    have hl : lv_has ls 8 [(0, .ref (q 28)), (1, .int p1), (2, .int p2), (3, .int p3)] := hl
    obtain ⟨H, hHe⟩ : ∃ H, s.heap = H := ⟨_, rfl⟩
    rw [hHe] at hP ⊢
    obtain ⟨locs, hLe⟩ : ∃ x : List Loc, ([] : List Loc) = x := ⟨_, rfl⟩
    rw [hLe]
    have hS : va_S (aT 30 q) s.heap H locs := by rw [← hHe, ← hLe]; exact va_S.rf
    refine lv_aload_n hx hb dX0_carry_0 rfl (lv_at hl 0 rfl) ?_
    refine va_get (D := (dC, dI)) (ci := 0) (v := .ref (q 3)) (C := RX0) (T := TX0) (N := 5) hx hb hts inX0 hown hK hP 28 rfl rfl 0 (by decide) (hts _ fl_X0_9) (fun _ h9 => h9) rfl dX0_carry_1 ?_
    refine lv_astore (lv' := [(4, .ref (q 3)), (0, .ref (q 28)), (1, .int p1), (2, .int p2), (3, .int p3)]) hx hb dX0_carry_4 hl (by decide) rfl (fun ls hl => ?_)
    refine lv_iload_n hx hb dX0_carry_6 rfl (lv_at hl 3 rfl) ?_
    refine lv_if_eq (tgt := 25) hx hb dX0_carry_7 (by decide) (fun c_7 => ?_) (fun c_7 => ?_)
    · have hF : fX0_carry (k + 1) σ p1 p2 p3 = σ := by rw [fX0_carry, if_pos c_7]
      have hP9 : va_P (dC, dI) vwCl (wT cI cJ q (fX0_carry (k + 1) σ p1 p2 p3)) H := by rw [hF]; exact hP
      exact W.vret hx hb hr (fun t ht hW => ⟨rfl, by rw [ht]; exact hP9, hS.F ht⟩) hS.2.2 dX0_carry_25
    · refine lv_iload_n hx hb dX0_carry_10 rfl (lv_at hl 4 rfl) ?_
      refine lv_bipush (v := 40) hx hb dX0_carry_11 (by decide) ?_
      refine lv_icmp_ge (tgt := 25) hx hb dX0_carry_13 (by decide) (fun c_13 => ?_) (fun c_13 => ?_)
      · have hF : fX0_carry (k + 1) σ p1 p2 p3 = σ := by rw [fX0_carry, if_neg c_7, if_pos c_13]
        have hP9 : va_P (dC, dI) vwCl (wT cI cJ q (fX0_carry (k + 1) σ p1 p2 p3)) H := by rw [hF]; exact hP
        exact W.vret hx hb hr (fun t ht hW => ⟨rfl, by rw [ht]; exact hP9, hS.F ht⟩) hS.2.2 dX0_carry_25
      · refine lv_aload hx hb dX0_carry_16 (lv_at hl 0 rfl) ?_
        refine lv_iload_n hx hb dX0_carry_18 rfl (lv_at hl 2 rfl) ?_
        refine xc_i (va_runV (As := [.int p1]) (rest := []) ⟨hx, hb, hml, hown, hts⟩ (c_X5_has l dC dI cI cJ q σ p1) (cwV 1 hts (gV ml_X0_34 im_X5_has se_X5_has in_X5 co_X5_has) rfl rfl rfl (by decide +kernel) ⟨(show 0 + 1 ≤ 3 + (k + 1) by omega), (show 8 + (2 + 11) + 0 ≤ 67 + 27 * (k + 1) by omega)⟩) (preV hK hP (pos := 3) (ci := 5) rfl rfl) rfl rfl hl.1 rfl (lv_room (Nat.le_of_ble_eq_true rfl)) dX0_carry_19 ⟨Nat.zero_le _, Nat.zero_le _⟩) ?_
        refine lv_if_ne (tgt := 26) hx hb dX0_carry_22 (by decide) (fun c_22 => ?_) (fun c_22 => ?_)
        · refine lv_aload hx hb dX0_carry_26 (lv_at hl 0 rfl) ?_
          refine lv_iload_n hx hb dX0_carry_28 rfl (lv_at hl 2 rfl) ?_
          refine lv_aload_n hx hb dX0_carry_29 rfl (lv_at hl 1 rfl) ?_
          refine va_get (D := (dC, dI)) (ci := 0) (v := .int (σ.2.1 6)) (C := RX0) (T := TX0) (N := 5) hx hb hts inX0 hown hK hP 28 rfl rfl 3 (by decide) (hts _ fl_X0_23) (fun _ h9 => h9) rfl dX0_carry_30 ?_
          refine lv_aload_n hx hb dX0_carry_33 rfl (lv_at hl 1 rfl) ?_
          refine va_get (D := (dC, dI)) (ci := 0) (v := .int (σ.2.1 7)) (C := RX0) (T := TX0) (N := 5) hx hb hts inX0 hown hK hP 28 rfl rfl 4 (by decide) (hts _ fl_X0_27) (fun _ h9 => h9) rfl dX0_carry_34 ?_
          refine xc_i (va_runV (As := [.int p1, .int (σ.2.1 6), .int (σ.2.1 7)]) (rest := []) ⟨hx, hb, hml, hown, hts⟩ (c_X5_livesOn l dC dI cI cJ q σ p1 (σ.2.1 6) (σ.2.1 7) (by assumption)) (cwV 3 hts (gV ml_X0_40 im_X5_livesOn se_X5_livesOn in_X5 co_X5_livesOn) rfl rfl rfl (by decide +kernel) ⟨(show 2 + 1 ≤ 3 + (k + 1) by omega), (show 8 + (4 + 11) + 44 ≤ 67 + 27 * (k + 1) by omega)⟩) (preV hK hP (pos := 3) (ci := 5) rfl rfl) rfl rfl hl.1 rfl (lv_room (Nat.le_of_ble_eq_true rfl)) dX0_carry_37 ⟨Nat.zero_le _, Nat.zero_le _⟩) ?_
          refine lv_if_eq (tgt := 55) hx hb dX0_carry_40 (by decide) (fun c_40 => ?_) (fun c_40 => ?_)
          · refine lv_aload_n hx hb dX0_carry_55 rfl (lv_at hl 1 rfl) ?_
            refine va_get (D := (dC, dI)) (ci := 0) (v := .int (σ.2.1 6)) (C := RX0) (T := TX0) (N := 5) hx hb hts inX0 hown hK hP 28 rfl rfl 3 (by decide) (hts _ fl_X0_23) (fun _ h9 => h9) rfl dX0_carry_56 ?_
            refine lv_aload hx hb dX0_carry_59 (lv_at hl 0 rfl) ?_
            refine lv_iload_n hx hb dX0_carry_61 rfl (lv_at hl 2 rfl) ?_
            refine xc_i (va_runV (As := [.int p1]) (rest := [.int (σ.2.1 6)]) ⟨hx, hb, hml, hown, hts⟩ (c_X5_birthOf l dC dI cI cJ q σ p1 (has_in40 hI c_22)) (cwV 1 hts (gV ml_X0_44 im_X5_birthOf se_X5_birthOf in_X5 co_X5_birthOf) rfl rfl rfl (by decide +kernel) ⟨(show 0 + 1 ≤ 3 + (k + 1) by omega), (show 8 + (2 + 11) + 0 ≤ 67 + 27 * (k + 1) by omega)⟩) (preV hK hP (pos := 3) (ci := 5) rfl rfl) rfl rfl hl.1 rfl (lv_room (Nat.le_of_ble_eq_true rfl)) dX0_carry_62 ⟨Nat.zero_le _, Nat.zero_le _⟩) ?_
            refine lv_icmp_ge (tgt := 72) hx hb dX0_carry_65 (by decide) (fun c_65 => ?_) (fun c_65 => ?_)
            · refine lv_aload hx hb dX0_carry_72 (lv_at hl 0 rfl) ?_
              refine lv_iload_n hx hb dX0_carry_74 rfl (lv_at hl 2 rfl) ?_
              refine lv_aload_n hx hb dX0_carry_75 rfl (lv_at hl 1 rfl) ?_
              refine va_get (D := (dC, dI)) (ci := 0) (v := .int (σ.2.1 7)) (C := RX0) (T := TX0) (N := 5) hx hb hts inX0 hown hK hP 28 rfl rfl 4 (by decide) (hts _ fl_X0_27) (fun _ h9 => h9) rfl dX0_carry_76 ?_
              refine xc_i (va_runV (As := [.int p1, .int (σ.2.1 7)]) (rest := []) ⟨hx, hb, hml, hown, hts⟩ (c_X5_endingOf l dC dI cI cJ q σ p1 (σ.2.1 7) (has_in40 hI c_22)) (cwV 2 hts (gV ml_X0_48 im_X5_endingOf se_X5_endingOf in_X5 co_X5_endingOf) rfl rfl rfl (by decide +kernel) ⟨(show 1 + 1 ≤ 3 + (k + 1) by omega), (show 8 + (3 + 11) + 22 ≤ 67 + 27 * (k + 1) by omega)⟩) (preV hK hP (pos := 3) (ci := 5) rfl rfl) rfl rfl hl.1 rfl (lv_room (Nat.le_of_ble_eq_true rfl)) dX0_carry_79 ⟨Nat.zero_le _, Nat.zero_le _⟩) ?_
              refine lv_istore (lv' := [(5, .int (fX5_endingOf σ p1 (σ.2.1 7))), (4, .ref (q 3)), (0, .ref (q 28)), (1, .int p1), (2, .int p2), (3, .int p3)]) hx hb dX0_carry_82 hl (by decide) rfl (fun ls hl => ?_)
              refine lv_aload hx hb dX0_carry_84 (lv_at hl 1 rfl) ?_
              refine lv_iload_n hx hb dX0_carry_86 rfl (lv_at hl 3 rfl) ?_
              refine lv_aload_n hx hb dX0_carry_87 rfl (lv_at hl 2 rfl) ?_
              refine va_get (D := (dC, dI)) (ci := 0) (v := .int (σ.2.1 7)) (C := RX0) (T := TX0) (N := 5) hx hb hts inX0 hown hK hP 28 rfl rfl 4 (by decide) (hts _ fl_X0_27) (fun _ h9 => h9) rfl dX0_carry_88 ?_
              refine xc_i (va_runV (As := [.int p1, .int (σ.2.1 7)]) (rest := []) ⟨hx, hb, hml, hown, hts⟩ (c_X5_heirOf l dC dI cI cJ q σ p1 (σ.2.1 7) (has_in40 hI c_22)) (cwV 2 hts (gV ml_X0_52 im_X5_heirOf se_X5_heirOf in_X5 co_X5_heirOf) rfl rfl rfl (by decide +kernel) ⟨(show 1 + 1 ≤ 3 + (k + 1) by omega), (show 8 + (3 + 11) + 22 ≤ 67 + 27 * (k + 1) by omega)⟩) (preV hK hP (pos := 3) (ci := 5) rfl rfl) rfl rfl hl.1 rfl (lv_room (Nat.le_of_ble_eq_true rfl)) dX0_carry_91 ⟨Nat.zero_le _, Nat.zero_le _⟩) ?_
              refine lv_istore (lv' := [(6, .int (fX5_heirOf σ p1 (σ.2.1 7))), (5, .int (fX5_endingOf σ p1 (σ.2.1 7))), (4, .ref (q 3)), (0, .ref (q 28)), (1, .int p1), (2, .int p2), (3, .int p3)]) hx hb dX0_carry_94 hl (by decide) rfl (fun ls hl => ?_)
              refine lv_iload hx hb dX0_carry_96 (lv_at hl 1 rfl) ?_
              refine lv_iconst (v := 2) hx hb dX0_carry_98 (by decide) ?_
              refine lv_icmp_ne (tgt := 140) hx hb dX0_carry_99 (by decide) (fun c_99 => ?_) (fun c_99 => ?_)
              · refine lv_iload hx hb dX0_carry_140 (lv_at hl 1 rfl) ?_
                refine lv_iconst (v := 3) hx hb dX0_carry_142 (by decide) ?_
                refine lv_icmp_ne (tgt := 159) hx hb dX0_carry_143 (by decide) (fun c_143 => ?_) (fun c_143 => ?_)
                · refine lv_aload_n hx hb dX0_carry_159 rfl (lv_at hl 3 rfl) ?_
                  refine lv_dup hx hb dX0_carry_160 rfl ?_
                  refine va_get (D := (dC, dI)) (ci := 0) (v := .long σ.2.2.2) (C := RX0) (T := TX0) (N := 5) hx hb hts inX0 hown hK hP 28 rfl rfl 2 (by decide) (hts _ fl_X0_19) (fun _ h9 => h9) rfl dX0_carry_161 ?_
                  refine lv_iload_n hx hb dX0_carry_164 rfl (lv_at hl 5 rfl) ?_
                  refine lv_i2l (v := p2.toInt64) hx hb dX0_carry_165 rfl ?_
                  refine lv_ladd hx hb dX0_carry_166 ?_
                  refine va_put (D := (dC, dI)) (ci := 0) (v := .long (σ.2.2.2 + p2.toInt64)) (ty := .long) (C := RX0) (T := TX0) (N := 5) hx hb hts inX0 tyX0 tyX0_ok nmX0 hown hK hP (wT_D hd) hS 28 rfl rfl 2 (by decide) (hts _ fl_X0_19) (fun _ h9 => h9) rfl (by decide +kernel) rfl rfl (Nat.le_of_ble_eq_true rfl) dX0_carry_167 (fun H locs hP _ hS => ?_)
                  have hP : va_P (dC, dI) vwCl (wT cI cJ q (sZ σ (σ.2.2.2 + p2.toInt64))) H := hP
                  have hF : fX0_carry (k + 1) σ p1 p2 p3 = (sZ σ (σ.2.2.2 + p2.toInt64)) := by rw [fX0_carry, if_neg c_7, if_neg c_13, if_neg c_22, if_pos c_40, if_pos c_65, if_neg c_99, if_neg c_143]
                  have hP9 : va_P (dC, dI) vwCl (wT cI cJ q (fX0_carry (k + 1) σ p1 p2 p3)) H := by rw [hF]; exact hP
                  exact W.vret hx hb hr (fun t ht hW => ⟨rfl, by rw [ht]; exact hP9, hS.F ht⟩) hS.2.2 dX0_carry_170
                · refine lv_aload_n hx hb dX0_carry_146 rfl (lv_at hl 3 rfl) ?_
                  refine lv_iload hx hb dX0_carry_147 (lv_at hl 0 rfl) ?_
                  refine lv_iload_n hx hb dX0_carry_149 rfl (lv_at hl 5 rfl) ?_
                  refine lv_iload_n hx hb dX0_carry_150 rfl (lv_at hl 6 rfl) ?_
                  refine lv_iconst (v := 1) hx hb dX0_carry_151 (by decide) ?_
                  refine lv_iadd hx hb dX0_carry_152 ?_
                  refine xw_c (va_runS (As := [.ref (q 28), .int (fX5_heirOf σ p1 (σ.2.1 7)), .int p2, .int (p3 + 1)]) (rest := []) ⟨hx, hb, hml, hown, hts⟩ (ih σ (fX5_heirOf σ p1 (σ.2.1 7)) p2 (p3 + 1) (by assumption) (dp_s hk c_13)) (va_cwS 4 hts (gS ml_X0_30 st_X0_carry in_X0 co_X0_carry) rfl rfl rfl (by decide +kernel) ⟨(show (3 + k) + 1 ≤ 3 + (k + 1) by omega), (show 8 + (8 + 11) + (67 + 27 * k) ≤ 67 + 27 * (k + 1) by omega)⟩) (preS hK hP) rfl rfl hl.1 rfl (lv_room (Nat.le_of_ble_eq_true rfl)) dX0_carry_153 ⟨Nat.zero_le _, Nat.zero_le _⟩) hS (fun _ h => h) (fun H locs hP _ _ hS => ?_)
                  have hP : va_P (dC, dI) vwCl (wT cI cJ q (fX0_carry k σ (fX5_heirOf σ p1 (σ.2.1 7)) p2 (p3 + 1))) H := hP
                  refine W.eq (g2 := F0 m 156 ls []) rfl ?_
                  refine lv_goto (tgt := 170) hx hb dX0_carry_156 (by decide) ?_
                  have hF : fX0_carry (k + 1) σ p1 p2 p3 = (fX0_carry k σ (fX5_heirOf σ p1 (σ.2.1 7)) p2 (p3 + 1)) := by rw [fX0_carry, if_neg c_7, if_neg c_13, if_neg c_22, if_pos c_40, if_pos c_65, if_neg c_99, if_pos c_143]
                  have hP9 : va_P (dC, dI) vwCl (wT cI cJ q (fX0_carry (k + 1) σ p1 p2 p3)) H := by rw [hF]; exact hP
                  exact W.vret hx hb hr (fun t ht hW => ⟨rfl, by rw [ht]; exact hP9, hS.F ht⟩) hS.2.2 dX0_carry_170
              · refine lv_aload hx hb dX0_carry_102 (lv_at hl 2 rfl) ?_
                refine lv_iload_n hx hb dX0_carry_104 rfl (lv_at hl 4 rfl) ?_
                refine lv_iload_n hx hb dX0_carry_105 rfl (lv_at hl 5 rfl) ?_
                refine xc_i (va_runV (As := [.int p1, .int p2]) (rest := []) ⟨hx, hb, hml, hown, hts⟩ (c_X5_firstShareOf l dC dI cI cJ q σ p1 p2 (has_in40 hI c_22)) (cwV 2 hts (gV ml_X0_55 im_X5_firstShareOf se_X5_firstShareOf in_X5 co_X5_firstShareOf) rfl rfl rfl (by decide +kernel) ⟨(show 0 + 1 ≤ 3 + (k + 1) by omega), (show 8 + (4 + 11) + 0 ≤ 67 + 27 * (k + 1) by omega)⟩) (preV hK hP (pos := 3) (ci := 5) rfl rfl) rfl rfl hl.1 rfl (lv_room (Nat.le_of_ble_eq_true rfl)) dX0_carry_106 ⟨Nat.zero_le _, Nat.zero_le _⟩) ?_
                refine lv_istore (lv' := [(7, .int (fX5_firstShareOf σ p1 p2)), (6, .int (fX5_heirOf σ p1 (σ.2.1 7))), (5, .int (fX5_endingOf σ p1 (σ.2.1 7))), (4, .ref (q 3)), (0, .ref (q 28)), (1, .int p1), (2, .int p2), (3, .int p3)]) hx hb dX0_carry_109 hl (by decide) rfl (fun ls hl => ?_)
                refine lv_aload_n hx hb dX0_carry_111 rfl (lv_at hl 4 rfl) ?_
                refine lv_iload hx hb dX0_carry_112 (lv_at hl 1 rfl) ?_
                refine lv_iload hx hb dX0_carry_114 (lv_at hl 0 rfl) ?_
                refine lv_iload_n hx hb dX0_carry_116 rfl (lv_at hl 7 rfl) ?_
                refine lv_iconst (v := 1) hx hb dX0_carry_117 (by decide) ?_
                refine lv_iadd hx hb dX0_carry_118 ?_
                refine xw_c (va_runS (As := [.ref (q 28), .int (fX5_heirOf σ p1 (σ.2.1 7)), .int (fX5_firstShareOf σ p1 p2), .int (p3 + 1)]) (rest := []) ⟨hx, hb, hml, hown, hts⟩ (ih σ (fX5_heirOf σ p1 (σ.2.1 7)) (fX5_firstShareOf σ p1 p2) (p3 + 1) (by assumption) (dp_s hk c_13)) (va_cwS 4 hts (gS ml_X0_30 st_X0_carry in_X0 co_X0_carry) rfl rfl rfl (by decide +kernel) ⟨(show (3 + k) + 1 ≤ 3 + (k + 1) by omega), (show 8 + (8 + 11) + (67 + 27 * k) ≤ 67 + 27 * (k + 1) by omega)⟩) (preS hK hP) rfl rfl hl.1 rfl (lv_room (Nat.le_of_ble_eq_true rfl)) dX0_carry_119 ⟨Nat.zero_le _, Nat.zero_le _⟩) hS (fun _ h => h) (fun H locs hP _ _ hS => ?_)
                have hP : va_P (dC, dI) vwCl (wT cI cJ q (fX0_carry k σ (fX5_heirOf σ p1 (σ.2.1 7)) (fX5_firstShareOf σ p1 p2) (p3 + 1))) H := hP
                refine W.eq (g2 := F0 m 122 ls []) rfl ?_
                refine lv_aload_n hx hb dX0_carry_122 rfl (lv_at hl 4 rfl) ?_
                refine lv_iload hx hb dX0_carry_123 (lv_at hl 1 rfl) ?_
                refine lv_iconst (v := 1) hx hb dX0_carry_125 (by decide) ?_
                refine lv_iadd hx hb dX0_carry_126 ?_
                refine lv_iload_n hx hb dX0_carry_127 rfl (lv_at hl 6 rfl) ?_
                refine lv_iload hx hb dX0_carry_128 (lv_at hl 0 rfl) ?_
                refine lv_isub hx hb dX0_carry_130 ?_
                refine lv_iload_n hx hb dX0_carry_131 rfl (lv_at hl 7 rfl) ?_
                refine lv_iconst (v := 1) hx hb dX0_carry_132 (by decide) ?_
                refine lv_iadd hx hb dX0_carry_133 ?_
                refine xw_c (va_runS (As := [.ref (q 28), .int ((fX5_heirOf σ p1 (σ.2.1 7)) + 1), .int (p2 - (fX5_firstShareOf σ p1 p2)), .int (p3 + 1)]) (rest := []) ⟨hx, hb, hml, hown, hts⟩ (ih (fX0_carry k σ (fX5_heirOf σ p1 (σ.2.1 7)) (fX5_firstShareOf σ p1 p2) (p3 + 1)) ((fX5_heirOf σ p1 (σ.2.1 7)) + 1) (p2 - (fX5_firstShareOf σ p1 p2)) (p3 + 1) (carry_IB hI) (dp_s hk c_13)) (va_cwS 4 hts (gS ml_X0_30 st_X0_carry in_X0 co_X0_carry) rfl rfl rfl (by decide +kernel) ⟨(show (3 + k) + 1 ≤ 3 + (k + 1) by omega), (show 8 + (8 + 11) + (67 + 27 * k) ≤ 67 + 27 * (k + 1) by omega)⟩) (preS hK hP) rfl rfl hl.1 rfl (lv_room (Nat.le_of_ble_eq_true rfl)) dX0_carry_134 ⟨Nat.zero_le _, Nat.zero_le _⟩) hS (fun _ h => h) (fun H locs hP _ _ hS => ?_)
                have hP : va_P (dC, dI) vwCl (wT cI cJ q (fX0_carry k (fX0_carry k σ (fX5_heirOf σ p1 (σ.2.1 7)) (fX5_firstShareOf σ p1 p2) (p3 + 1)) ((fX5_heirOf σ p1 (σ.2.1 7)) + 1) (p2 - (fX5_firstShareOf σ p1 p2)) (p3 + 1))) H := hP
                refine W.eq (g2 := F0 m 137 ls []) rfl ?_
                refine lv_goto (tgt := 170) hx hb dX0_carry_137 (by decide) ?_
                have hF : fX0_carry (k + 1) σ p1 p2 p3 = (fX0_carry k (fX0_carry k σ (fX5_heirOf σ p1 (σ.2.1 7)) (fX5_firstShareOf σ p1 p2) (p3 + 1)) ((fX5_heirOf σ p1 (σ.2.1 7)) + 1) (p2 - (fX5_firstShareOf σ p1 p2)) (p3 + 1)) := by rw [fX0_carry, if_neg c_7, if_neg c_13, if_neg c_22, if_pos c_40, if_pos c_65, if_pos c_99]
                have hP9 : va_P (dC, dI) vwCl (wT cI cJ q (fX0_carry (k + 1) σ p1 p2 p3)) H := by rw [hF]; exact hP
                exact W.vret hx hb hr (fun t ht hW => ⟨rfl, by rw [ht]; exact hP9, hS.F ht⟩) hS.2.2 dX0_carry_170
            · refine lv_iconst (v := 1) hx hb dX0_carry_68 (by decide) ?_
              refine lv_goto (tgt := 82) hx hb dX0_carry_69 (by decide) ?_
              refine lv_istore (lv' := [(5, .int 1), (4, .ref (q 3)), (0, .ref (q 28)), (1, .int p1), (2, .int p2), (3, .int p3)]) hx hb dX0_carry_82 hl (by decide) rfl (fun ls hl => ?_)
              refine lv_aload hx hb dX0_carry_84 (lv_at hl 1 rfl) ?_
              refine lv_iload_n hx hb dX0_carry_86 rfl (lv_at hl 3 rfl) ?_
              refine lv_aload_n hx hb dX0_carry_87 rfl (lv_at hl 2 rfl) ?_
              refine va_get (D := (dC, dI)) (ci := 0) (v := .int (σ.2.1 7)) (C := RX0) (T := TX0) (N := 5) hx hb hts inX0 hown hK hP 28 rfl rfl 4 (by decide) (hts _ fl_X0_27) (fun _ h9 => h9) rfl dX0_carry_88 ?_
              refine xc_i (va_runV (As := [.int p1, .int (σ.2.1 7)]) (rest := []) ⟨hx, hb, hml, hown, hts⟩ (c_X5_heirOf l dC dI cI cJ q σ p1 (σ.2.1 7) (has_in40 hI c_22)) (cwV 2 hts (gV ml_X0_52 im_X5_heirOf se_X5_heirOf in_X5 co_X5_heirOf) rfl rfl rfl (by decide +kernel) ⟨(show 1 + 1 ≤ 3 + (k + 1) by omega), (show 8 + (3 + 11) + 22 ≤ 67 + 27 * (k + 1) by omega)⟩) (preV hK hP (pos := 3) (ci := 5) rfl rfl) rfl rfl hl.1 rfl (lv_room (Nat.le_of_ble_eq_true rfl)) dX0_carry_91 ⟨Nat.zero_le _, Nat.zero_le _⟩) ?_
              refine lv_istore (lv' := [(6, .int (fX5_heirOf σ p1 (σ.2.1 7))), (5, .int 1), (4, .ref (q 3)), (0, .ref (q 28)), (1, .int p1), (2, .int p2), (3, .int p3)]) hx hb dX0_carry_94 hl (by decide) rfl (fun ls hl => ?_)
              refine lv_iload hx hb dX0_carry_96 (lv_at hl 1 rfl) ?_
              refine lv_iconst (v := 2) hx hb dX0_carry_98 (by decide) ?_
              refine lv_icmp_ne (tgt := 140) hx hb dX0_carry_99 (by decide) (fun c_99 => ?_) (fun c_99 => ?_)
              · refine lv_iload hx hb dX0_carry_140 (lv_at hl 1 rfl) ?_
                refine lv_iconst (v := 3) hx hb dX0_carry_142 (by decide) ?_
                refine lv_icmp_ne (tgt := 159) hx hb dX0_carry_143 (by decide) (fun c_143 => ?_) (fun c_143 => ?_)
                · refine lv_aload_n hx hb dX0_carry_159 rfl (lv_at hl 3 rfl) ?_
                  refine lv_dup hx hb dX0_carry_160 rfl ?_
                  refine va_get (D := (dC, dI)) (ci := 0) (v := .long σ.2.2.2) (C := RX0) (T := TX0) (N := 5) hx hb hts inX0 hown hK hP 28 rfl rfl 2 (by decide) (hts _ fl_X0_19) (fun _ h9 => h9) rfl dX0_carry_161 ?_
                  refine lv_iload_n hx hb dX0_carry_164 rfl (lv_at hl 5 rfl) ?_
                  refine lv_i2l (v := p2.toInt64) hx hb dX0_carry_165 rfl ?_
                  refine lv_ladd hx hb dX0_carry_166 ?_
                  refine va_put (D := (dC, dI)) (ci := 0) (v := .long (σ.2.2.2 + p2.toInt64)) (ty := .long) (C := RX0) (T := TX0) (N := 5) hx hb hts inX0 tyX0 tyX0_ok nmX0 hown hK hP (wT_D hd) hS 28 rfl rfl 2 (by decide) (hts _ fl_X0_19) (fun _ h9 => h9) rfl (by decide +kernel) rfl rfl (Nat.le_of_ble_eq_true rfl) dX0_carry_167 (fun H locs hP _ hS => ?_)
                  have hP : va_P (dC, dI) vwCl (wT cI cJ q (sZ σ (σ.2.2.2 + p2.toInt64))) H := hP
                  have hF : fX0_carry (k + 1) σ p1 p2 p3 = (sZ σ (σ.2.2.2 + p2.toInt64)) := by rw [fX0_carry, if_neg c_7, if_neg c_13, if_neg c_22, if_pos c_40, if_neg c_65]
                  have hP9 : va_P (dC, dI) vwCl (wT cI cJ q (fX0_carry (k + 1) σ p1 p2 p3)) H := by rw [hF]; exact hP
                  exact W.vret hx hb hr (fun t ht hW => ⟨rfl, by rw [ht]; exact hP9, hS.F ht⟩) hS.2.2 dX0_carry_170
                · exact absurd c_143 (by decide)
              · exact absurd c_99 (by decide)
          · refine lv_aload_n hx hb dX0_carry_43 rfl (lv_at hl 1 rfl) ?_
            refine va_get (D := (dC, dI)) (ci := 0) (v := .ref (q 29)) (C := RX0) (T := TX0) (N := 5) hx hb hts inX0 hown hK hP 28 rfl rfl 1 (by decide) (hts _ fl_X0_15) (fun _ h9 => h9) rfl dX0_carry_44 ?_
            refine lv_iload_n hx hb dX0_carry_47 rfl (lv_at hl 2 rfl) ?_
            refine lv_dup2_11 hx hb dX0_carry_48 rfl rfl ?_
            refine va_lald hx hb hK hP 29 1 rfl rfl (has_in40 hI c_22) dX0_carry_49 ?_
            refine lv_iload_n hx hb dX0_carry_50 rfl (lv_at hl 3 rfl) ?_
            refine lv_i2l (v := p2.toInt64) hx hb dX0_carry_51 rfl ?_
            refine lv_ladd hx hb dX0_carry_52 ?_
            refine va_last hx hb hK hP (wT_D hd) hS 29 1 rfl rfl (has_in40 hI c_22) dX0_carry_53 (fun H locs hP _ hS => ?_)
            have hP : va_P (dC, dI) vwCl (wT cI cJ q (sL σ p1.toNatClampNeg ((σ.2.2.1 p1.toNatClampNeg) + p2.toInt64))) H := hP
            have hF : fX0_carry (k + 1) σ p1 p2 p3 = (sL σ p1.toNatClampNeg ((σ.2.2.1 p1.toNatClampNeg) + p2.toInt64)) := by rw [fX0_carry, if_neg c_7, if_neg c_13, if_neg c_22, if_neg c_40]
            have hP9 : va_P (dC, dI) vwCl (wT cI cJ q (fX0_carry (k + 1) σ p1 p2 p3)) H := by rw [hF]; exact hP
            exact W.vret hx hb hr (fun t ht hW => ⟨rfl, by rw [ht]; exact hP9, hS.F ht⟩) hS.2.2 dX0_carry_54
        · have hF : fX0_carry (k + 1) σ p1 p2 p3 = σ := by rw [fX0_carry, if_neg c_7, if_neg c_13, if_pos c_22]
          have hP9 : va_P (dC, dI) vwCl (wT cI cJ q (fX0_carry (k + 1) σ p1 p2 p3)) H := by rw [hF]; exact hP
          exact W.vret hx hb hr (fun t ht hW => ⟨rfl, by rw [ht]; exact hP9, hS.F ht⟩) hS.2.2 dX0_carry_25

def fX0_add (σ : St) (p1 : Int32) (p2 : Int32) : St :=
  (fX0_carry 40 σ p1 p2 0)
set_option maxHeartbeats 4000000 in
set_option maxRecDepth 100000 in
theorem c_X0_add (l : Launch) (dC : Nat → ClassId) (dI : Nat → Nat → Nat) (cI cJ : ClassId) (q : Nat → Nat) (σ : St) (p1 : Int32) (p2 : Int32) (hd : dT 30 q) (hI : IB σ) : Met l yX0_add (.code yX0_add cX0_add 3 none :: tb) { frames := 44, cells := 0, slots := 0, locals := 1174 } (Pu (dC, dI) (tyC cI cJ) (wT cI cJ q σ) [.ref (q 28), .int p1, .int p2]) (xw_Q none (dC, dI) (wT cI cJ q (fX0_add σ p1 p2)) (aT 30 q)) 0 0 (aT 30 q) := by
  refine Met.ofW (cc := cX0_add) (maxL := 3) (ret := none) (by decide) rfl ?_
  intro p e s m args below meth c s₁ B hml hv
  obtain ⟨rfl, hP, hK⟩ := hv
  have hx := B.exec
  have hb := B.bytes
  have hr := B.returns
  have hts0 := atoms_spec (ws := .code yX0_add cX0_add 3 none :: tb) B.pre
  have hts : ∀ w ∈ tb, w.before _ s = true := fun w hw => hts0 w (List.mem_cons_of_mem _ hw)
  have hown : s.vm.findClass RX0 = some m.cls := findClass_of_methodNamed B.named
  have hlocks := B.notSynchronized
  have hl := lv_entry ([.ref (q 28), .int p1, .int p2]) (n := 3) (Nat.le_of_ble_eq_true rfl)
  rw [lg_entry_eq]
  generalize (lg_sl ([.ref (q 28), .int p1, .int p2]) ++ List.replicate (3 - (lg_sl ([.ref (q 28), .int p1, .int p2])).length) Slot.unset).toArray = ls at hl ⊢
  have hl : lv_has ls 3 [(0, .ref (q 28)), (1, .int p1), (2, .int p2)] := hl
  obtain ⟨H, hHe⟩ : ∃ H, s.heap = H := ⟨_, rfl⟩
  rw [hHe] at hP ⊢
  obtain ⟨locs, hLe⟩ : ∃ x : List Loc, ([] : List Loc) = x := ⟨_, rfl⟩
  rw [hLe]
  have hS : va_S (aT 30 q) s.heap H locs := by rw [← hHe, ← hLe]; exact va_S.rf
  refine lv_aload_n hx hb dX0_add_0 rfl (lv_at hl 0 rfl) ?_
  refine lv_iload_n hx hb dX0_add_1 rfl (lv_at hl 1 rfl) ?_
  refine lv_iload_n hx hb dX0_add_2 rfl (lv_at hl 2 rfl) ?_
  refine lv_iconst (v := 0) hx hb dX0_add_3 (by decide) ?_
  refine xw_c (va_runS (As := [.ref (q 28), .int p1, .int p2, .int 0]) (rest := []) ⟨hx, hb, hml, hown, hts⟩ (c_X0_carry l dC dI cI cJ q hd 40 σ p1 p2 0 hI ⟨0, rfl, by decide, by decide⟩) (va_cwS 4 hts (gS ml_X0_30 st_X0_carry in_X0 co_X0_carry) rfl rfl rfl (by decide +kernel) ⟨Nat.le_of_ble_eq_true rfl, Nat.le_of_ble_eq_true rfl⟩) (preS hK hP) rfl rfl hl.1 rfl (lv_room (Nat.le_of_ble_eq_true rfl)) dX0_add_4 ⟨Nat.zero_le _, Nat.zero_le _⟩) hS (fun _ h => h) (fun H locs hP _ _ hS => ?_)
  have hP : va_P (dC, dI) vwCl (wT cI cJ q (fX0_carry 40 σ p1 p2 0)) H := hP
  refine W.eq (g2 := F0 m 7 ls []) rfl ?_
  have hF : fX0_add σ p1 p2 = (fX0_carry 40 σ p1 p2 0) := by rw [fX0_add]
  have hP9 : va_P (dC, dI) vwCl (wT cI cJ q (fX0_add σ p1 p2)) H := by rw [hF]; exact hP
  exact W.vret hx hb hr (fun t ht hW => ⟨rfl, by rw [ht]; exact hP9, hS.F ht⟩) hS.2.2 dX0_add_7
