def fX6_isDay (σ : St) (p1 : Int32) : Int32 :=
  (if p1 < 0 then 0 else (if 2000 < p1 then 0 else 1))
set_option maxHeartbeats 4000000 in
set_option maxRecDepth 100000 in
theorem c_X6_isDay (l : Launch) (dC : Nat → ClassId) (dI : Nat → Nat → Nat) (cI cJ : ClassId) (q : Nat → Nat) (σ : St) (p1 : Int32) : Met l yX6_isDay (.code yX6_isDay cX6_isDay 1 (some .boolean) :: tb) { frames := 0, cells := 0, slots := 0, locals := 0 } (Pu (dC, dI) (tyC cI cJ) (wT cI cJ q σ) [.int p1]) (vp_Si (fun r => r = fX6_isDay σ p1)) 0 0 (fun _ => False) := by
  refine Met.ofW (cc := cX6_isDay) (maxL := 1) (ret := (some .boolean)) (by decide) rfl ?_
  intro p e s m args below meth c s₁ B hml hv
  obtain ⟨rfl, hP, hK⟩ := hv
  have hx := B.exec
  have hb := B.bytes
  have hr := B.returns
  have hts0 := atoms_spec (ws := .code yX6_isDay cX6_isDay 1 (some .boolean) :: tb) B.pre
  have hts : ∀ w ∈ tb, w.before _ s = true := fun w hw => hts0 w (List.mem_cons_of_mem _ hw)
  have hown : s.vm.findClass RX6 = some m.cls := findClass_of_methodNamed B.named
  have hlocks := B.notSynchronized
  have hl := lv_entry ([.int p1]) (n := 1) (Nat.le_of_ble_eq_true rfl)
  rw [lg_entry_eq]
  generalize (lg_sl ([.int p1]) ++ List.replicate (1 - (lg_sl ([.int p1])).length) Slot.unset).toArray = ls at hl ⊢
  have hl : lv_has ls 1 [(0, .int p1)] := hl
  refine lv_iload_n hx hb dX6_isDay_0 rfl (lv_at hl 0 rfl) ?_
  refine lv_if_lt (tgt := 15) hx hb dX6_isDay_1 (by decide) (fun c_1 => ?_) (fun c_1 => ?_)
  · refine lv_iconst (v := 0) hx hb dX6_isDay_15 (by decide) ?_
    exact W.zret (v := 0) hx hb hr narrow_b0 (fun t ht hW => ⟨_, rfl, (by rw [fX6_isDay, if_pos c_1]), ht⟩) (fun _ h => absurd h List.not_mem_nil) dX6_isDay_16
  · refine lv_iload_n hx hb dX6_isDay_4 rfl (lv_at hl 0 rfl) ?_
    refine lv_sipush (v := 2000) hx hb dX6_isDay_5 (by decide) ?_
    refine lv_icmp_gt (tgt := 15) hx hb dX6_isDay_8 (by decide) (fun c_8 => ?_) (fun c_8 => ?_)
    · refine lv_iconst (v := 0) hx hb dX6_isDay_15 (by decide) ?_
      exact W.zret (v := 0) hx hb hr narrow_b0 (fun t ht hW => ⟨_, rfl, (by rw [fX6_isDay, if_neg c_1, if_pos c_8]), ht⟩) (fun _ h => absurd h List.not_mem_nil) dX6_isDay_16
    · refine lv_iconst (v := 1) hx hb dX6_isDay_11 (by decide) ?_
      refine lv_goto (tgt := 16) hx hb dX6_isDay_12 (by decide) ?_
      exact W.zret (v := 1) hx hb hr narrow_b1 (fun t ht hW => ⟨_, rfl, (by rw [fX6_isDay, if_neg c_1, if_neg c_8]), ht⟩) (fun _ h => absurd h List.not_mem_nil) dX6_isDay_16

def fX6_isCode (σ : St) (p1 : Int32) : Int32 :=
  (if p1 < 0 then 0 else (if 99 < p1 then 0 else 1))
set_option maxHeartbeats 4000000 in
set_option maxRecDepth 100000 in
theorem c_X6_isCode (l : Launch) (dC : Nat → ClassId) (dI : Nat → Nat → Nat) (cI cJ : ClassId) (q : Nat → Nat) (σ : St) (p1 : Int32) : Met l yX6_isCode (.code yX6_isCode cX6_isCode 1 (some .boolean) :: tb) { frames := 0, cells := 0, slots := 0, locals := 0 } (Pu (dC, dI) (tyC cI cJ) (wT cI cJ q σ) [.int p1]) (vp_Si (fun r => r = fX6_isCode σ p1)) 0 0 (fun _ => False) := by
  refine Met.ofW (cc := cX6_isCode) (maxL := 1) (ret := (some .boolean)) (by decide) rfl ?_
  intro p e s m args below meth c s₁ B hml hv
  obtain ⟨rfl, hP, hK⟩ := hv
  have hx := B.exec
  have hb := B.bytes
  have hr := B.returns
  have hts0 := atoms_spec (ws := .code yX6_isCode cX6_isCode 1 (some .boolean) :: tb) B.pre
  have hts : ∀ w ∈ tb, w.before _ s = true := fun w hw => hts0 w (List.mem_cons_of_mem _ hw)
  have hown : s.vm.findClass RX6 = some m.cls := findClass_of_methodNamed B.named
  have hlocks := B.notSynchronized
  have hl := lv_entry ([.int p1]) (n := 1) (Nat.le_of_ble_eq_true rfl)
  rw [lg_entry_eq]
  generalize (lg_sl ([.int p1]) ++ List.replicate (1 - (lg_sl ([.int p1])).length) Slot.unset).toArray = ls at hl ⊢
  have hl : lv_has ls 1 [(0, .int p1)] := hl
  refine lv_iload_n hx hb dX6_isCode_0 rfl (lv_at hl 0 rfl) ?_
  refine lv_if_lt (tgt := 14) hx hb dX6_isCode_1 (by decide) (fun c_1 => ?_) (fun c_1 => ?_)
  · refine lv_iconst (v := 0) hx hb dX6_isCode_14 (by decide) ?_
    exact W.zret (v := 0) hx hb hr narrow_b0 (fun t ht hW => ⟨_, rfl, (by rw [fX6_isCode, if_pos c_1]), ht⟩) (fun _ h => absurd h List.not_mem_nil) dX6_isCode_15
  · refine lv_iload_n hx hb dX6_isCode_4 rfl (lv_at hl 0 rfl) ?_
    refine lv_bipush (v := 99) hx hb dX6_isCode_5 (by decide) ?_
    refine lv_icmp_gt (tgt := 14) hx hb dX6_isCode_7 (by decide) (fun c_7 => ?_) (fun c_7 => ?_)
    · refine lv_iconst (v := 0) hx hb dX6_isCode_14 (by decide) ?_
      exact W.zret (v := 0) hx hb hr narrow_b0 (fun t ht hW => ⟨_, rfl, (by rw [fX6_isCode, if_neg c_1, if_pos c_7]), ht⟩) (fun _ h => absurd h List.not_mem_nil) dX6_isCode_15
    · refine lv_iconst (v := 1) hx hb dX6_isCode_10 (by decide) ?_
      refine lv_goto (tgt := 15) hx hb dX6_isCode_11 (by decide) ?_
      exact W.zret (v := 1) hx hb hr narrow_b1 (fun t ht hW => ⟨_, rfl, (by rw [fX6_isCode, if_neg c_1, if_neg c_7]), ht⟩) (fun _ h => absurd h List.not_mem_nil) dX6_isCode_15

def fX6_isMark (σ : St) (p1 : Int32) : Int32 :=
  (if p1 < 0 then 0 else (if 3 < p1 then 0 else 1))
set_option maxHeartbeats 4000000 in
set_option maxRecDepth 100000 in
theorem c_X6_isMark (l : Launch) (dC : Nat → ClassId) (dI : Nat → Nat → Nat) (cI cJ : ClassId) (q : Nat → Nat) (σ : St) (p1 : Int32) : Met l yX6_isMark (.code yX6_isMark cX6_isMark 1 (some .boolean) :: tb) { frames := 0, cells := 0, slots := 0, locals := 0 } (Pu (dC, dI) (tyC cI cJ) (wT cI cJ q σ) [.int p1]) (vp_Si (fun r => r = fX6_isMark σ p1)) 0 0 (fun _ => False) := by
  refine Met.ofW (cc := cX6_isMark) (maxL := 1) (ret := (some .boolean)) (by decide) rfl ?_
  intro p e s m args below meth c s₁ B hml hv
  obtain ⟨rfl, hP, hK⟩ := hv
  have hx := B.exec
  have hb := B.bytes
  have hr := B.returns
  have hts0 := atoms_spec (ws := .code yX6_isMark cX6_isMark 1 (some .boolean) :: tb) B.pre
  have hts : ∀ w ∈ tb, w.before _ s = true := fun w hw => hts0 w (List.mem_cons_of_mem _ hw)
  have hown : s.vm.findClass RX6 = some m.cls := findClass_of_methodNamed B.named
  have hlocks := B.notSynchronized
  have hl := lv_entry ([.int p1]) (n := 1) (Nat.le_of_ble_eq_true rfl)
  rw [lg_entry_eq]
  generalize (lg_sl ([.int p1]) ++ List.replicate (1 - (lg_sl ([.int p1])).length) Slot.unset).toArray = ls at hl ⊢
  have hl : lv_has ls 1 [(0, .int p1)] := hl
  refine lv_iload_n hx hb dX6_isMark_0 rfl (lv_at hl 0 rfl) ?_
  refine lv_if_lt (tgt := 13) hx hb dX6_isMark_1 (by decide) (fun c_1 => ?_) (fun c_1 => ?_)
  · refine lv_iconst (v := 0) hx hb dX6_isMark_13 (by decide) ?_
    exact W.zret (v := 0) hx hb hr narrow_b0 (fun t ht hW => ⟨_, rfl, (by rw [fX6_isMark, if_pos c_1]), ht⟩) (fun _ h => absurd h List.not_mem_nil) dX6_isMark_14
  · refine lv_iload_n hx hb dX6_isMark_4 rfl (lv_at hl 0 rfl) ?_
    refine lv_iconst (v := 3) hx hb dX6_isMark_5 (by decide) ?_
    refine lv_icmp_gt (tgt := 13) hx hb dX6_isMark_6 (by decide) (fun c_6 => ?_) (fun c_6 => ?_)
    · refine lv_iconst (v := 0) hx hb dX6_isMark_13 (by decide) ?_
      exact W.zret (v := 0) hx hb hr narrow_b0 (fun t ht hW => ⟨_, rfl, (by rw [fX6_isMark, if_neg c_1, if_pos c_6]), ht⟩) (fun _ h => absurd h List.not_mem_nil) dX6_isMark_14
    · refine lv_iconst (v := 1) hx hb dX6_isMark_9 (by decide) ?_
      refine lv_goto (tgt := 14) hx hb dX6_isMark_10 (by decide) ?_
      exact W.zret (v := 1) hx hb hr narrow_b1 (fun t ht hW => ⟨_, rfl, (by rw [fX6_isMark, if_neg c_1, if_neg c_6]), ht⟩) (fun _ h => absurd h List.not_mem_nil) dX6_isMark_14

def fX6_isAnswer (σ : St) (p1 : Int32) : Int32 :=
  (if p1 < 0 then 0 else (if 100 < p1 then 0 else 1))
set_option maxHeartbeats 4000000 in
set_option maxRecDepth 100000 in
theorem c_X6_isAnswer (l : Launch) (dC : Nat → ClassId) (dI : Nat → Nat → Nat) (cI cJ : ClassId) (q : Nat → Nat) (σ : St) (p1 : Int32) : Met l yX6_isAnswer (.code yX6_isAnswer cX6_isAnswer 1 (some .boolean) :: tb) { frames := 0, cells := 0, slots := 0, locals := 0 } (Pu (dC, dI) (tyC cI cJ) (wT cI cJ q σ) [.int p1]) (vp_Si (fun r => r = fX6_isAnswer σ p1)) 0 0 (fun _ => False) := by
  refine Met.ofW (cc := cX6_isAnswer) (maxL := 1) (ret := (some .boolean)) (by decide) rfl ?_
  intro p e s m args below meth c s₁ B hml hv
  obtain ⟨rfl, hP, hK⟩ := hv
  have hx := B.exec
  have hb := B.bytes
  have hr := B.returns
  have hts0 := atoms_spec (ws := .code yX6_isAnswer cX6_isAnswer 1 (some .boolean) :: tb) B.pre
  have hts : ∀ w ∈ tb, w.before _ s = true := fun w hw => hts0 w (List.mem_cons_of_mem _ hw)
  have hown : s.vm.findClass RX6 = some m.cls := findClass_of_methodNamed B.named
  have hlocks := B.notSynchronized
  have hl := lv_entry ([.int p1]) (n := 1) (Nat.le_of_ble_eq_true rfl)
  rw [lg_entry_eq]
  generalize (lg_sl ([.int p1]) ++ List.replicate (1 - (lg_sl ([.int p1])).length) Slot.unset).toArray = ls at hl ⊢
  have hl : lv_has ls 1 [(0, .int p1)] := hl
  refine lv_iload_n hx hb dX6_isAnswer_0 rfl (lv_at hl 0 rfl) ?_
  refine lv_if_lt (tgt := 14) hx hb dX6_isAnswer_1 (by decide) (fun c_1 => ?_) (fun c_1 => ?_)
  · refine lv_iconst (v := 0) hx hb dX6_isAnswer_14 (by decide) ?_
    exact W.zret (v := 0) hx hb hr narrow_b0 (fun t ht hW => ⟨_, rfl, (by rw [fX6_isAnswer, if_pos c_1]), ht⟩) (fun _ h => absurd h List.not_mem_nil) dX6_isAnswer_15
  · refine lv_iload_n hx hb dX6_isAnswer_4 rfl (lv_at hl 0 rfl) ?_
    refine lv_bipush (v := 100) hx hb dX6_isAnswer_5 (by decide) ?_
    refine lv_icmp_gt (tgt := 14) hx hb dX6_isAnswer_7 (by decide) (fun c_7 => ?_) (fun c_7 => ?_)
    · refine lv_iconst (v := 0) hx hb dX6_isAnswer_14 (by decide) ?_
      exact W.zret (v := 0) hx hb hr narrow_b0 (fun t ht hW => ⟨_, rfl, (by rw [fX6_isAnswer, if_neg c_1, if_pos c_7]), ht⟩) (fun _ h => absurd h List.not_mem_nil) dX6_isAnswer_15
    · refine lv_iconst (v := 1) hx hb dX6_isAnswer_10 (by decide) ?_
      refine lv_goto (tgt := 15) hx hb dX6_isAnswer_11 (by decide) ?_
      exact W.zret (v := 1) hx hb hr narrow_b1 (fun t ht hW => ⟨_, rfl, (by rw [fX6_isAnswer, if_neg c_1, if_neg c_7]), ht⟩) (fun _ h => absurd h List.not_mem_nil) dX6_isAnswer_15

def fX6_isShare (σ : St) (p1 : Int32) (p2 : Int32) : Int32 :=
  (if p2 < 1 then 0 else (if 100 < p2 then 0 else (if p1 < 0 then 0 else (if p2 < p1 then 0 else 1))))
set_option maxHeartbeats 4000000 in
set_option maxRecDepth 100000 in
theorem c_X6_isShare (l : Launch) (dC : Nat → ClassId) (dI : Nat → Nat → Nat) (cI cJ : ClassId) (q : Nat → Nat) (σ : St) (p1 : Int32) (p2 : Int32) : Met l yX6_isShare (.code yX6_isShare cX6_isShare 2 (some .boolean) :: tb) { frames := 0, cells := 0, slots := 0, locals := 0 } (Pu (dC, dI) (tyC cI cJ) (wT cI cJ q σ) [.int p1, .int p2]) (vp_Si (fun r => r = fX6_isShare σ p1 p2)) 0 0 (fun _ => False) := by
  refine Met.ofW (cc := cX6_isShare) (maxL := 2) (ret := (some .boolean)) (by decide) rfl ?_
  intro p e s m args below meth c s₁ B hml hv
  obtain ⟨rfl, hP, hK⟩ := hv
  have hx := B.exec
  have hb := B.bytes
  have hr := B.returns
  have hts0 := atoms_spec (ws := .code yX6_isShare cX6_isShare 2 (some .boolean) :: tb) B.pre
  have hts : ∀ w ∈ tb, w.before _ s = true := fun w hw => hts0 w (List.mem_cons_of_mem _ hw)
  have hown : s.vm.findClass RX6 = some m.cls := findClass_of_methodNamed B.named
  have hlocks := B.notSynchronized
  have hl := lv_entry ([.int p1, .int p2]) (n := 2) (Nat.le_of_ble_eq_true rfl)
  rw [lg_entry_eq]
  generalize (lg_sl ([.int p1, .int p2]) ++ List.replicate (2 - (lg_sl ([.int p1, .int p2])).length) Slot.unset).toArray = ls at hl ⊢
  have hl : lv_has ls 2 [(0, .int p1), (1, .int p2)] := hl
  refine lv_iload_n hx hb dX6_isShare_0 rfl (lv_at hl 1 rfl) ?_
  refine lv_iconst (v := 1) hx hb dX6_isShare_1 (by decide) ?_
  refine lv_icmp_lt (tgt := 24) hx hb dX6_isShare_2 (by decide) (fun c_2 => ?_) (fun c_2 => ?_)
  · refine lv_iconst (v := 0) hx hb dX6_isShare_24 (by decide) ?_
    exact W.zret (v := 0) hx hb hr narrow_b0 (fun t ht hW => ⟨_, rfl, (by rw [fX6_isShare, if_pos c_2]), ht⟩) (fun _ h => absurd h List.not_mem_nil) dX6_isShare_25
  · refine lv_iload_n hx hb dX6_isShare_5 rfl (lv_at hl 1 rfl) ?_
    refine lv_bipush (v := 100) hx hb dX6_isShare_6 (by decide) ?_
    refine lv_icmp_gt (tgt := 24) hx hb dX6_isShare_8 (by decide) (fun c_8 => ?_) (fun c_8 => ?_)
    · refine lv_iconst (v := 0) hx hb dX6_isShare_24 (by decide) ?_
      exact W.zret (v := 0) hx hb hr narrow_b0 (fun t ht hW => ⟨_, rfl, (by rw [fX6_isShare, if_neg c_2, if_pos c_8]), ht⟩) (fun _ h => absurd h List.not_mem_nil) dX6_isShare_25
    · refine lv_iload_n hx hb dX6_isShare_11 rfl (lv_at hl 0 rfl) ?_
      refine lv_if_lt (tgt := 24) hx hb dX6_isShare_12 (by decide) (fun c_12 => ?_) (fun c_12 => ?_)
      · refine lv_iconst (v := 0) hx hb dX6_isShare_24 (by decide) ?_
        exact W.zret (v := 0) hx hb hr narrow_b0 (fun t ht hW => ⟨_, rfl, (by rw [fX6_isShare, if_neg c_2, if_neg c_8, if_pos c_12]), ht⟩) (fun _ h => absurd h List.not_mem_nil) dX6_isShare_25
      · refine lv_iload_n hx hb dX6_isShare_15 rfl (lv_at hl 0 rfl) ?_
        refine lv_iload_n hx hb dX6_isShare_16 rfl (lv_at hl 1 rfl) ?_
        refine lv_icmp_gt (tgt := 24) hx hb dX6_isShare_17 (by decide) (fun c_17 => ?_) (fun c_17 => ?_)
        · refine lv_iconst (v := 0) hx hb dX6_isShare_24 (by decide) ?_
          exact W.zret (v := 0) hx hb hr narrow_b0 (fun t ht hW => ⟨_, rfl, (by rw [fX6_isShare, if_neg c_2, if_neg c_8, if_neg c_12, if_pos c_17]), ht⟩) (fun _ h => absurd h List.not_mem_nil) dX6_isShare_25
        · refine lv_iconst (v := 1) hx hb dX6_isShare_20 (by decide) ?_
          refine lv_goto (tgt := 25) hx hb dX6_isShare_21 (by decide) ?_
          exact W.zret (v := 1) hx hb hr narrow_b1 (fun t ht hW => ⟨_, rfl, (by rw [fX6_isShare, if_neg c_2, if_neg c_8, if_neg c_12, if_neg c_17]), ht⟩) (fun _ h => absurd h List.not_mem_nil) dX6_isShare_25

def fX6_canEnd (σ : St) (p1 : Int32) (p2 : Int32) : Int32 :=
  (if (fX6_isDay σ p2) = 0 then 0 else (if (fX5_has σ p1) = 0 then 0 else (if (fX5_hasEnd σ p1) = 0 then (if p2 ≤ (σ.1 1 p1.toNatClampNeg) then 0 else 1) else 0)))
set_option maxHeartbeats 4000000 in
set_option maxRecDepth 100000 in
theorem c_X6_canEnd (l : Launch) (dC : Nat → ClassId) (dI : Nat → Nat → Nat) (cI cJ : ClassId) (q : Nat → Nat) (σ : St) (p1 : Int32) (p2 : Int32) (hI : IB σ) : Met l yX6_canEnd (.code yX6_canEnd cX6_canEnd 3 (some .boolean) :: tb) { frames := 1, cells := 0, slots := 0, locals := 21 } (Pu (dC, dI) (tyC cI cJ) (wT cI cJ q σ) [.ref (q 0), .int p1, .int p2]) (vp_Si (fun r => r = fX6_canEnd σ p1 p2)) 0 0 (fun _ => False) := by
  refine Met.ofW (cc := cX6_canEnd) (maxL := 3) (ret := (some .boolean)) (by decide) rfl ?_
  intro p e s m args below meth c s₁ B hml hv
  obtain ⟨rfl, hP, hK⟩ := hv
  have hx := B.exec
  have hb := B.bytes
  have hr := B.returns
  have hts0 := atoms_spec (ws := .code yX6_canEnd cX6_canEnd 3 (some .boolean) :: tb) B.pre
  have hts : ∀ w ∈ tb, w.before _ s = true := fun w hw => hts0 w (List.mem_cons_of_mem _ hw)
  have hown : s.vm.findClass RX6 = some m.cls := findClass_of_methodNamed B.named
  have hlocks := B.notSynchronized
  have hl := lv_entry ([.ref (q 0), .int p1, .int p2]) (n := 3) (Nat.le_of_ble_eq_true rfl)
  rw [lg_entry_eq]
  generalize (lg_sl ([.ref (q 0), .int p1, .int p2]) ++ List.replicate (3 - (lg_sl ([.ref (q 0), .int p1, .int p2])).length) Slot.unset).toArray = ls at hl ⊢
  have hl : lv_has ls 3 [(0, .ref (q 0)), (1, .int p1), (2, .int p2)] := hl
  refine lv_iload_n hx hb dX6_canEnd_0 rfl (lv_at hl 2 rfl) ?_
  refine xc_i (va_runS (As := [.int p2]) (rest := []) ⟨hx, hb, hml, hown, hts⟩ (c_X6_isDay l dC dI cI cJ q σ p2) (va_cwS 1 hts (gS ml_X6_56 st_X6_isDay in_X6 co_X6_isDay) rfl rfl rfl (by decide +kernel) ⟨Nat.le_of_ble_eq_true rfl, Nat.le_of_ble_eq_true rfl⟩) (preS hK hP) rfl rfl hl.1 rfl (lv_room (Nat.le_of_ble_eq_true rfl)) dX6_canEnd_1 ⟨Nat.zero_le _, Nat.zero_le _⟩) ?_
  refine lv_if_eq (tgt := 45) hx hb dX6_canEnd_4 (by decide) (fun c_4 => ?_) (fun c_4 => ?_)
  · refine lv_iconst (v := 0) hx hb dX6_canEnd_45 (by decide) ?_
    exact W.zret (v := 0) hx hb hr narrow_b0 (fun t ht hW => ⟨_, rfl, (by rw [fX6_canEnd, if_pos c_4]), ht⟩) (fun _ h => absurd h List.not_mem_nil) dX6_canEnd_46
  · refine lv_aload_n hx hb dX6_canEnd_7 rfl (lv_at hl 0 rfl) ?_
    refine va_get (D := (dC, dI)) (ci := 6) (v := .ref (q 3)) (C := RX6) (T := TX6) (N := 6) hx hb hts inX6 hown hK hP 0 rfl rfl 1 (by decide) (hts _ fl_X6_19) (fun _ h9 => h9) rfl dX6_canEnd_8 ?_
    refine lv_iload_n hx hb dX6_canEnd_11 rfl (lv_at hl 1 rfl) ?_
    refine xc_i (va_runV (As := [.int p1]) (rest := []) ⟨hx, hb, hml, hown, hts⟩ (c_X5_has l dC dI cI cJ q σ p1) (cwV 1 hts (gV ml_X6_86 im_X5_has se_X5_has in_X5 co_X5_has) rfl rfl rfl (by decide +kernel) ⟨Nat.le_of_ble_eq_true rfl, Nat.le_of_ble_eq_true rfl⟩) (preV hK hP (pos := 3) (ci := 5) rfl rfl) rfl rfl hl.1 rfl (lv_room (Nat.le_of_ble_eq_true rfl)) dX6_canEnd_12 ⟨Nat.zero_le _, Nat.zero_le _⟩) ?_
    refine lv_if_eq (tgt := 45) hx hb dX6_canEnd_15 (by decide) (fun c_15 => ?_) (fun c_15 => ?_)
    · refine lv_iconst (v := 0) hx hb dX6_canEnd_45 (by decide) ?_
      exact W.zret (v := 0) hx hb hr narrow_b0 (fun t ht hW => ⟨_, rfl, (by rw [fX6_canEnd, if_neg c_4, if_pos c_15]), ht⟩) (fun _ h => absurd h List.not_mem_nil) dX6_canEnd_46
    · refine lv_aload_n hx hb dX6_canEnd_18 rfl (lv_at hl 0 rfl) ?_
      refine va_get (D := (dC, dI)) (ci := 6) (v := .ref (q 3)) (C := RX6) (T := TX6) (N := 6) hx hb hts inX6 hown hK hP 0 rfl rfl 1 (by decide) (hts _ fl_X6_19) (fun _ h9 => h9) rfl dX6_canEnd_19 ?_
      refine lv_iload_n hx hb dX6_canEnd_22 rfl (lv_at hl 1 rfl) ?_
      refine xc_i (va_runV (As := [.int p1]) (rest := []) ⟨hx, hb, hml, hown, hts⟩ (c_X5_hasEnd l dC dI cI cJ q σ p1 (has_in40 hI c_15)) (cwV 1 hts (gV ml_X6_194 im_X5_hasEnd se_X5_hasEnd in_X5 co_X5_hasEnd) rfl rfl rfl (by decide +kernel) ⟨Nat.le_of_ble_eq_true rfl, Nat.le_of_ble_eq_true rfl⟩) (preV hK hP (pos := 3) (ci := 5) rfl rfl) rfl rfl hl.1 rfl (lv_room (Nat.le_of_ble_eq_true rfl)) dX6_canEnd_23 ⟨Nat.zero_le _, Nat.zero_le _⟩) ?_
      refine lv_if_ne (tgt := 45) hx hb dX6_canEnd_26 (by decide) (fun c_26 => ?_) (fun c_26 => ?_)
      · refine lv_iconst (v := 0) hx hb dX6_canEnd_45 (by decide) ?_
        exact W.zret (v := 0) hx hb hr narrow_b0 (fun t ht hW => ⟨_, rfl, (by rw [fX6_canEnd, if_neg c_4, if_neg c_15, if_neg c_26]), ht⟩) (fun _ h => absurd h List.not_mem_nil) dX6_canEnd_46
      · refine lv_iload_n hx hb dX6_canEnd_29 rfl (lv_at hl 2 rfl) ?_
        refine lv_aload_n hx hb dX6_canEnd_30 rfl (lv_at hl 0 rfl) ?_
        refine va_get (D := (dC, dI)) (ci := 6) (v := .ref (q 3)) (C := RX6) (T := TX6) (N := 6) hx hb hts inX6 hown hK hP 0 rfl rfl 1 (by decide) (hts _ fl_X6_19) (fun _ h9 => h9) rfl dX6_canEnd_31 ?_
        refine lv_iload_n hx hb dX6_canEnd_34 rfl (lv_at hl 1 rfl) ?_
        refine xc_i (va_runV (As := [.int p1]) (rest := [.int p2]) ⟨hx, hb, hml, hown, hts⟩ (c_X5_birthOf l dC dI cI cJ q σ p1 (has_in40 hI c_15)) (cwV 1 hts (gV ml_X6_129 im_X5_birthOf se_X5_birthOf in_X5 co_X5_birthOf) rfl rfl rfl (by decide +kernel) ⟨Nat.le_of_ble_eq_true rfl, Nat.le_of_ble_eq_true rfl⟩) (preV hK hP (pos := 3) (ci := 5) rfl rfl) rfl rfl hl.1 rfl (lv_room (Nat.le_of_ble_eq_true rfl)) dX6_canEnd_35 ⟨Nat.zero_le _, Nat.zero_le _⟩) ?_
        refine lv_icmp_le (tgt := 45) hx hb dX6_canEnd_38 (by decide) (fun c_38 => ?_) (fun c_38 => ?_)
        · refine lv_iconst (v := 0) hx hb dX6_canEnd_45 (by decide) ?_
          exact W.zret (v := 0) hx hb hr narrow_b0 (fun t ht hW => ⟨_, rfl, (by rw [fX6_canEnd, if_neg c_4, if_neg c_15, if_pos c_26, if_pos c_38]), ht⟩) (fun _ h => absurd h List.not_mem_nil) dX6_canEnd_46
        · refine lv_iconst (v := 1) hx hb dX6_canEnd_41 (by decide) ?_
          refine lv_goto (tgt := 46) hx hb dX6_canEnd_42 (by decide) ?_
          exact W.zret (v := 1) hx hb hr narrow_b1 (fun t ht hW => ⟨_, rfl, (by rw [fX6_canEnd, if_neg c_4, if_neg c_15, if_pos c_26, if_neg c_38]), ht⟩) (fun _ h => absurd h List.not_mem_nil) dX6_canEnd_46

theorem canEnd_in {σ : St} {x d : Int32} (hI : IB σ) (c : ¬ fX6_canEnd σ x d = 0) : vp_in x 40 := by
  unfold fX6_canEnd at c
  split at c
  · exact absurd rfl c
  · split at c
    · exact absurd rfl c
    · exact has_in40 hI (by assumption)

def fX6_isFixed (σ : St) (p1 : Int32) : Int32 :=
  (if (fX4_valueOn σ p1 0 (σ.2.1 0) (σ.2.1 0)) = 100 then 0 else 1)
set_option maxHeartbeats 4000000 in
set_option maxRecDepth 100000 in
theorem c_X6_isFixed (l : Launch) (dC : Nat → ClassId) (dI : Nat → Nat → Nat) (cI cJ : ClassId) (q : Nat → Nat) (σ : St) (p1 : Int32) (hI : IB σ) : Met l yX6_isFixed (.code yX6_isFixed cX6_isFixed 2 (some .boolean) :: tb) { frames := 3, cells := 0, slots := 0, locals := 70 } (Pu (dC, dI) (tyC cI cJ) (wT cI cJ q σ) [.ref (q 0), .int p1]) (vp_Si (fun r => r = fX6_isFixed σ p1)) 0 0 (fun _ => False) := by
  refine Met.ofW (cc := cX6_isFixed) (maxL := 2) (ret := (some .boolean)) (by decide) rfl ?_
  intro p e s m args below meth c s₁ B hml hv
  obtain ⟨rfl, hP, hK⟩ := hv
  have hx := B.exec
  have hb := B.bytes
  have hr := B.returns
  have hts0 := atoms_spec (ws := .code yX6_isFixed cX6_isFixed 2 (some .boolean) :: tb) B.pre
  have hts : ∀ w ∈ tb, w.before _ s = true := fun w hw => hts0 w (List.mem_cons_of_mem _ hw)
  have hown : s.vm.findClass RX6 = some m.cls := findClass_of_methodNamed B.named
  have hlocks := B.notSynchronized
  have hl := lv_entry ([.ref (q 0), .int p1]) (n := 2) (Nat.le_of_ble_eq_true rfl)
  rw [lg_entry_eq]
  generalize (lg_sl ([.ref (q 0), .int p1]) ++ List.replicate (2 - (lg_sl ([.ref (q 0), .int p1])).length) Slot.unset).toArray = ls at hl ⊢
  have hl : lv_has ls 2 [(0, .ref (q 0)), (1, .int p1)] := hl
  refine lv_aload_n hx hb dX6_isFixed_0 rfl (lv_at hl 0 rfl) ?_
  refine va_get (D := (dC, dI)) (ci := 6) (v := .ref (q 13)) (C := RX6) (T := TX6) (N := 6) hx hb hts inX6 hown hK hP 0 rfl rfl 2 (by decide) (hts _ fl_X6_28) (fun _ h9 => h9) rfl dX6_isFixed_1 ?_
  refine lv_iload_n hx hb dX6_isFixed_4 rfl (lv_at hl 1 rfl) ?_
  refine lv_iconst (v := 0) hx hb dX6_isFixed_5 (by decide) ?_
  refine lv_aload_n hx hb dX6_isFixed_6 rfl (lv_at hl 0 rfl) ?_
  refine va_get (D := (dC, dI)) (ci := 6) (v := .int (σ.2.1 0)) (C := RX6) (T := TX6) (N := 6) hx hb hts inX6 hown hK hP 0 rfl rfl 5 (by decide) (hts _ fl_X6_48) (fun _ h9 => h9) rfl dX6_isFixed_7 ?_
  refine lv_aload_n hx hb dX6_isFixed_10 rfl (lv_at hl 0 rfl) ?_
  refine va_get (D := (dC, dI)) (ci := 6) (v := .int (σ.2.1 0)) (C := RX6) (T := TX6) (N := 6) hx hb hts inX6 hown hK hP 0 rfl rfl 5 (by decide) (hts _ fl_X6_48) (fun _ h9 => h9) rfl dX6_isFixed_11 ?_
  refine xc_i (va_runV (As := [.int p1, .int 0, .int (σ.2.1 0), .int (σ.2.1 0)]) (rest := []) ⟨hx, hb, hml, hown, hts⟩ (c_X4_valueOn l dC dI cI cJ q σ p1 0 (σ.2.1 0) (σ.2.1 0) (by assumption)) (cwV 4 hts (gV ml_X6_123 im_X4_valueOn se_X4_valueOn in_X4 co_X4_valueOn) rfl rfl rfl (by decide +kernel) ⟨Nat.le_of_ble_eq_true rfl, Nat.le_of_ble_eq_true rfl⟩) (preV hK hP (pos := 13) (ci := 4) rfl rfl) rfl rfl hl.1 rfl (lv_room (Nat.le_of_ble_eq_true rfl)) dX6_isFixed_14 ⟨Nat.zero_le _, Nat.zero_le _⟩) ?_
  refine lv_bipush (v := 100) hx hb dX6_isFixed_17 (by decide) ?_
  refine lv_icmp_eq (tgt := 26) hx hb dX6_isFixed_19 (by decide) (fun c_19 => ?_) (fun c_19 => ?_)
  · refine lv_iconst (v := 0) hx hb dX6_isFixed_26 (by decide) ?_
    exact W.zret (v := 0) hx hb hr narrow_b0 (fun t ht hW => ⟨_, rfl, (by rw [fX6_isFixed, if_pos c_19]), ht⟩) (fun _ h => absurd h List.not_mem_nil) dX6_isFixed_27
  · refine lv_iconst (v := 1) hx hb dX6_isFixed_22 (by decide) ?_
    refine lv_goto (tgt := 27) hx hb dX6_isFixed_23 (by decide) ?_
    exact W.zret (v := 1) hx hb hr narrow_b1 (fun t ht hW => ⟨_, rfl, (by rw [fX6_isFixed, if_neg c_19]), ht⟩) (fun _ h => absurd h List.not_mem_nil) dX6_isFixed_27

set_option maxHeartbeats 4000000 in
set_option maxRecDepth 100000 in
theorem c_X6_thingOfFact (l : Launch) (dC : Nat → ClassId) (dI : Nat → Nat → Nat) (cI cJ : ClassId) (q : Nat → Nat) (σ : St) (p1 : Int32) (p2 : Int32) (hI : IB σ) (hR : vp_in p1 200) : Met l yX6_thingOfFact (.code yX6_thingOfFact cX6_thingOfFact 3 (some .int) :: tb) { frames := 4, cells := 0, slots := 0, locals := 91 } (Pu (dC, dI) (tyC cI cJ) (wT cI cJ q σ) [.ref (q 0), .int p1, .int p2]) (vp_Si (fun r => r = fX5_livingOn σ (σ.1 15 p1.toNatClampNeg) (σ.1 16 p1.toNatClampNeg) p2)) 0 0 (fun _ => False) := by
  refine Met.ofW (cc := cX6_thingOfFact) (maxL := 3) (ret := (some .int)) (by decide) rfl ?_
  intro p e s m args below meth c s₁ B hml hv
  obtain ⟨rfl, hP, hK⟩ := hv
  have hx := B.exec
  have hb := B.bytes
  have hr := B.returns
  have hts0 := atoms_spec (ws := .code yX6_thingOfFact cX6_thingOfFact 3 (some .int) :: tb) B.pre
  have hts : ∀ w ∈ tb, w.before _ s = true := fun w hw => hts0 w (List.mem_cons_of_mem _ hw)
  have hown : s.vm.findClass RX6 = some m.cls := findClass_of_methodNamed B.named
  have hlocks := B.notSynchronized
  have hl := lv_entry ([.ref (q 0), .int p1, .int p2]) (n := 3) (Nat.le_of_ble_eq_true rfl)
  rw [lg_entry_eq]
  generalize (lg_sl ([.ref (q 0), .int p1, .int p2]) ++ List.replicate (3 - (lg_sl ([.ref (q 0), .int p1, .int p2])).length) Slot.unset).toArray = ls at hl ⊢
  have hl : lv_has ls 3 [(0, .ref (q 0)), (1, .int p1), (2, .int p2)] := hl
  refine lv_aload_n hx hb dX6_thingOfFact_0 rfl (lv_at hl 0 rfl) ?_
  refine va_get (D := (dC, dI)) (ci := 6) (v := .ref (q 3)) (C := RX6) (T := TX6) (N := 6) hx hb hts inX6 hown hK hP 0 rfl rfl 1 (by decide) (hts _ fl_X6_19) (fun _ h9 => h9) rfl dX6_thingOfFact_1 ?_
  refine lv_aload_n hx hb dX6_thingOfFact_4 rfl (lv_at hl 0 rfl) ?_
  refine va_get (D := (dC, dI)) (ci := 6) (v := .ref (q 21)) (C := RX6) (T := TX6) (N := 6) hx hb hts inX6 hown hK hP 0 rfl rfl 3 (by decide) (hts _ fl_X6_35) (fun _ h9 => h9) rfl dX6_thingOfFact_5 ?_
  refine lv_iload_n hx hb dX6_thingOfFact_8 rfl (lv_at hl 1 rfl) ?_
  refine xc_i (va_runV (As := [.int p1]) (rest := [.ref (q 3)]) ⟨hx, hb, hml, hown, hts⟩ (c_X1_codeOf l dC dI cI cJ q σ p1 (by assumption)) (cwV 1 hts (gV ml_X6_197 im_X1_codeOf se_X1_codeOf in_X1 co_X1_codeOf) rfl rfl rfl (by decide +kernel) ⟨Nat.le_of_ble_eq_true rfl, Nat.le_of_ble_eq_true rfl⟩) (preV hK hP (pos := 21) (ci := 1) rfl rfl) rfl rfl hl.1 rfl (lv_room (Nat.le_of_ble_eq_true rfl)) dX6_thingOfFact_9 ⟨Nat.zero_le _, Nat.zero_le _⟩) ?_
  refine lv_aload_n hx hb dX6_thingOfFact_12 rfl (lv_at hl 0 rfl) ?_
  refine va_get (D := (dC, dI)) (ci := 6) (v := .ref (q 21)) (C := RX6) (T := TX6) (N := 6) hx hb hts inX6 hown hK hP 0 rfl rfl 3 (by decide) (hts _ fl_X6_35) (fun _ h9 => h9) rfl dX6_thingOfFact_13 ?_
  refine lv_iload_n hx hb dX6_thingOfFact_16 rfl (lv_at hl 1 rfl) ?_
  refine xc_i (va_runV (As := [.int p1]) (rest := [.int (σ.1 15 p1.toNatClampNeg), .ref (q 3)]) ⟨hx, hb, hml, hown, hts⟩ (c_X1_dayOf l dC dI cI cJ q σ p1 (by assumption)) (cwV 1 hts (gV ml_X6_198 im_X1_dayOf se_X1_dayOf in_X1 co_X1_dayOf) rfl rfl rfl (by decide +kernel) ⟨Nat.le_of_ble_eq_true rfl, Nat.le_of_ble_eq_true rfl⟩) (preV hK hP (pos := 21) (ci := 1) rfl rfl) rfl rfl hl.1 rfl (lv_room (Nat.le_of_ble_eq_true rfl)) dX6_thingOfFact_17 ⟨Nat.zero_le _, Nat.zero_le _⟩) ?_
  refine lv_iload_n hx hb dX6_thingOfFact_20 rfl (lv_at hl 2 rfl) ?_
  refine xc_i (va_runV (As := [.int (σ.1 15 p1.toNatClampNeg), .int (σ.1 16 p1.toNatClampNeg), .int p2]) (rest := []) ⟨hx, hb, hml, hown, hts⟩ (c_X5_livingOn l dC dI cI cJ q σ (σ.1 15 p1.toNatClampNeg) (σ.1 16 p1.toNatClampNeg) p2 (by assumption)) (cwV 3 hts (gV ml_X6_149 im_X5_livingOn se_X5_livingOn in_X5 co_X5_livingOn) rfl rfl rfl (by decide +kernel) ⟨Nat.le_of_ble_eq_true rfl, Nat.le_of_ble_eq_true rfl⟩) (preV hK hP (pos := 3) (ci := 5) rfl rfl) rfl rfl hl.1 rfl (lv_room (Nat.le_of_ble_eq_true rfl)) dX6_thingOfFact_21 ⟨Nat.zero_le _, Nat.zero_le _⟩) ?_
  exact W.iret (v := fX5_livingOn σ (σ.1 15 p1.toNatClampNeg) (σ.1 16 p1.toNatClampNeg) p2) hx hb hr (fun t ht hW => ⟨_, rfl, rfl, ht⟩) (fun _ h => absurd h List.not_mem_nil) dX6_thingOfFact_24

def fX6_isMarkedThen (σ : St) (p1 : Int32) (p2 : Int32) (p3 : Int32) (p4 : Int32) : Int32 :=
  (if (fX5_livingOn σ (σ.1 15 p1.toNatClampNeg) (σ.1 16 p1.toNatClampNeg) p4) = (-1) then 0 else (if (fX4_valueOn σ (fX5_livingOn σ (σ.1 15 p1.toNatClampNeg) (σ.1 16 p1.toNatClampNeg) p4) p2 (σ.1 16 p1.toNatClampNeg) p4) = p3 then 1 else 0))
set_option maxHeartbeats 4000000 in
set_option maxRecDepth 100000 in
theorem c_X6_isMarkedThen (l : Launch) (dC : Nat → ClassId) (dI : Nat → Nat → Nat) (cI cJ : ClassId) (q : Nat → Nat) (σ : St) (p1 : Int32) (p2 : Int32) (p3 : Int32) (p4 : Int32) (hI : IB σ) (hR : vp_in p1 200) : Met l yX6_isMarkedThen (.code yX6_isMarkedThen cX6_isMarkedThen 6 (some .boolean) :: tb) { frames := 5, cells := 0, slots := 0, locals := 113 } (Pu (dC, dI) (tyC cI cJ) (wT cI cJ q σ) [.ref (q 0), .int p1, .int p2, .int p3, .int p4]) (vp_Si (fun r => r = fX6_isMarkedThen σ p1 p2 p3 p4)) 0 0 (fun _ => False) := by
  refine Met.ofW (cc := cX6_isMarkedThen) (maxL := 6) (ret := (some .boolean)) (by decide) rfl ?_
  intro p e s m args below meth c s₁ B hml hv
  obtain ⟨rfl, hP, hK⟩ := hv
  have hx := B.exec
  have hb := B.bytes
  have hr := B.returns
  have hts0 := atoms_spec (ws := .code yX6_isMarkedThen cX6_isMarkedThen 6 (some .boolean) :: tb) B.pre
  have hts : ∀ w ∈ tb, w.before _ s = true := fun w hw => hts0 w (List.mem_cons_of_mem _ hw)
  have hown : s.vm.findClass RX6 = some m.cls := findClass_of_methodNamed B.named
  have hlocks := B.notSynchronized
  have hl := lv_entry ([.ref (q 0), .int p1, .int p2, .int p3, .int p4]) (n := 6) (Nat.le_of_ble_eq_true rfl)
  rw [lg_entry_eq]
  generalize (lg_sl ([.ref (q 0), .int p1, .int p2, .int p3, .int p4]) ++ List.replicate (6 - (lg_sl ([.ref (q 0), .int p1, .int p2, .int p3, .int p4])).length) Slot.unset).toArray = ls at hl ⊢
  have hl : lv_has ls 6 [(0, .ref (q 0)), (1, .int p1), (2, .int p2), (3, .int p3), (4, .int p4)] := hl
  refine lv_aload_n hx hb dX6_isMarkedThen_0 rfl (lv_at hl 0 rfl) ?_
  refine lv_iload_n hx hb dX6_isMarkedThen_1 rfl (lv_at hl 1 rfl) ?_
  refine lv_iload hx hb dX6_isMarkedThen_2 (lv_at hl 4 rfl) ?_
  refine xc_i (va_runV (As := [.int p1, .int p4]) (rest := []) ⟨hx, hb, hml, hown, hts⟩ (c_X6_thingOfFact l dC dI cI cJ q σ p1 p4 (by assumption) (by assumption)) (cwV 2 hts (gV ml_X6_146 im_X6_thingOfFact se_X6_thingOfFact in_X6 co_X6_thingOfFact) rfl rfl rfl (by decide +kernel) ⟨Nat.le_of_ble_eq_true rfl, Nat.le_of_ble_eq_true rfl⟩) (preV hK hP (pos := 0) (ci := 6) rfl rfl) rfl rfl hl.1 rfl (lv_room (Nat.le_of_ble_eq_true rfl)) dX6_isMarkedThen_4 ⟨Nat.zero_le _, Nat.zero_le _⟩) ?_
  refine lv_istore (lv' := [(5, .int (fX5_livingOn σ (σ.1 15 p1.toNatClampNeg) (σ.1 16 p1.toNatClampNeg) p4)), (0, .ref (q 0)), (1, .int p1), (2, .int p2), (3, .int p3), (4, .int p4)]) hx hb dX6_isMarkedThen_7 hl (by decide) rfl (fun ls hl => ?_)
  refine lv_iload hx hb dX6_isMarkedThen_9 (lv_at hl 0 rfl) ?_
  refine lv_iconst (v := (-1)) hx hb dX6_isMarkedThen_11 (by decide) ?_
  refine lv_icmp_eq (tgt := 43) hx hb dX6_isMarkedThen_12 (by decide) (fun c_12 => ?_) (fun c_12 => ?_)
  · refine lv_iconst (v := 0) hx hb dX6_isMarkedThen_43 (by decide) ?_
    exact W.zret (v := 0) hx hb hr narrow_b0 (fun t ht hW => ⟨_, rfl, (by rw [fX6_isMarkedThen, if_pos c_12]), ht⟩) (fun _ h => absurd h List.not_mem_nil) dX6_isMarkedThen_44
  · refine lv_aload_n hx hb dX6_isMarkedThen_15 rfl (lv_at hl 1 rfl) ?_
    refine va_get (D := (dC, dI)) (ci := 6) (v := .ref (q 13)) (C := RX6) (T := TX6) (N := 6) hx hb hts inX6 hown hK hP 0 rfl rfl 2 (by decide) (hts _ fl_X6_28) (fun _ h9 => h9) rfl dX6_isMarkedThen_16 ?_
    refine lv_iload hx hb dX6_isMarkedThen_19 (lv_at hl 0 rfl) ?_
    refine lv_iload_n hx hb dX6_isMarkedThen_21 rfl (lv_at hl 3 rfl) ?_
    refine lv_aload_n hx hb dX6_isMarkedThen_22 rfl (lv_at hl 1 rfl) ?_
    refine va_get (D := (dC, dI)) (ci := 6) (v := .ref (q 21)) (C := RX6) (T := TX6) (N := 6) hx hb hts inX6 hown hK hP 0 rfl rfl 3 (by decide) (hts _ fl_X6_35) (fun _ h9 => h9) rfl dX6_isMarkedThen_23 ?_
    refine lv_iload_n hx hb dX6_isMarkedThen_26 rfl (lv_at hl 2 rfl) ?_
    refine xc_i (va_runV (As := [.int p1]) (rest := [.int p2, .int (fX5_livingOn σ (σ.1 15 p1.toNatClampNeg) (σ.1 16 p1.toNatClampNeg) p4), .ref (q 13)]) ⟨hx, hb, hml, hown, hts⟩ (c_X1_dayOf l dC dI cI cJ q σ p1 (by assumption)) (cwV 1 hts (gV ml_X6_198 im_X1_dayOf se_X1_dayOf in_X1 co_X1_dayOf) rfl rfl rfl (by decide +kernel) ⟨Nat.le_of_ble_eq_true rfl, Nat.le_of_ble_eq_true rfl⟩) (preV hK hP (pos := 21) (ci := 1) rfl rfl) rfl rfl hl.1 rfl (lv_room (Nat.le_of_ble_eq_true rfl)) dX6_isMarkedThen_27 ⟨Nat.zero_le _, Nat.zero_le _⟩) ?_
    refine lv_iload hx hb dX6_isMarkedThen_30 (lv_at hl 5 rfl) ?_
    refine xc_i (va_runV (As := [.int (fX5_livingOn σ (σ.1 15 p1.toNatClampNeg) (σ.1 16 p1.toNatClampNeg) p4), .int p2, .int (σ.1 16 p1.toNatClampNeg), .int p4]) (rest := []) ⟨hx, hb, hml, hown, hts⟩ (c_X4_valueOn l dC dI cI cJ q σ (fX5_livingOn σ (σ.1 15 p1.toNatClampNeg) (σ.1 16 p1.toNatClampNeg) p4) p2 (σ.1 16 p1.toNatClampNeg) p4 (by assumption)) (cwV 4 hts (gV ml_X6_123 im_X4_valueOn se_X4_valueOn in_X4 co_X4_valueOn) rfl rfl rfl (by decide +kernel) ⟨Nat.le_of_ble_eq_true rfl, Nat.le_of_ble_eq_true rfl⟩) (preV hK hP (pos := 13) (ci := 4) rfl rfl) rfl rfl hl.1 rfl (lv_room (Nat.le_of_ble_eq_true rfl)) dX6_isMarkedThen_32 ⟨Nat.zero_le _, Nat.zero_le _⟩) ?_
    refine lv_iload_n hx hb dX6_isMarkedThen_35 rfl (lv_at hl 4 rfl) ?_
    refine lv_icmp_ne (tgt := 43) hx hb dX6_isMarkedThen_36 (by decide) (fun c_36 => ?_) (fun c_36 => ?_)
    · refine lv_iconst (v := 0) hx hb dX6_isMarkedThen_43 (by decide) ?_
      exact W.zret (v := 0) hx hb hr narrow_b0 (fun t ht hW => ⟨_, rfl, (by rw [fX6_isMarkedThen, if_neg c_12, if_neg c_36]), ht⟩) (fun _ h => absurd h List.not_mem_nil) dX6_isMarkedThen_44
    · refine lv_iconst (v := 1) hx hb dX6_isMarkedThen_39 (by decide) ?_
      refine lv_goto (tgt := 44) hx hb dX6_isMarkedThen_40 (by decide) ?_
      exact W.zret (v := 1) hx hb hr narrow_b1 (fun t ht hW => ⟨_, rfl, (by rw [fX6_isMarkedThen, if_neg c_12, if_pos c_36]), ht⟩) (fun _ h => absurd h List.not_mem_nil) dX6_isMarkedThen_44

def fX6_day (σ : St) (p1 : Int32) : Int32 × St :=
  (if p1 ≤ (σ.2.1 0) then (0, σ) else (if p1 ≤ 2000 then (1, (sV σ 0 p1)) else (0, σ)))
set_option maxHeartbeats 4000000 in
set_option maxRecDepth 100000 in
theorem c_X6_day (l : Launch) (dC : Nat → ClassId) (dI : Nat → Nat → Nat) (cI cJ : ClassId) (q : Nat → Nat) (σ : St) (p1 : Int32) (hd : dT 30 q) : Met l yX6_day (.code yX6_day cX6_day 2 (some .boolean) :: tb) { frames := 0, cells := 0, slots := 0, locals := 0 } (Pu (dC, dI) (tyC cI cJ) (wT cI cJ q σ) [.ref (q 0), .int p1]) (xw_Q (some (.int (fX6_day σ p1).1)) (dC, dI) (wT cI cJ q (fX6_day σ p1).2) (aT 30 q)) 0 0 (aT 30 q) := by
  refine Met.ofW (cc := cX6_day) (maxL := 2) (ret := (some .boolean)) (by decide) rfl ?_
  intro p e s m args below meth c s₁ B hml hv
  obtain ⟨rfl, hP, hK⟩ := hv
  have hx := B.exec
  have hb := B.bytes
  have hr := B.returns
  have hts0 := atoms_spec (ws := .code yX6_day cX6_day 2 (some .boolean) :: tb) B.pre
  have hts : ∀ w ∈ tb, w.before _ s = true := fun w hw => hts0 w (List.mem_cons_of_mem _ hw)
  have hown : s.vm.findClass RX6 = some m.cls := findClass_of_methodNamed B.named
  have hlocks := B.notSynchronized
  have hl := lv_entry ([.ref (q 0), .int p1]) (n := 2) (Nat.le_of_ble_eq_true rfl)
  rw [lg_entry_eq]
  generalize (lg_sl ([.ref (q 0), .int p1]) ++ List.replicate (2 - (lg_sl ([.ref (q 0), .int p1])).length) Slot.unset).toArray = ls at hl ⊢
  have hl : lv_has ls 2 [(0, .ref (q 0)), (1, .int p1)] := hl
  obtain ⟨H, hHe⟩ : ∃ H, s.heap = H := ⟨_, rfl⟩
  rw [hHe] at hP ⊢
  obtain ⟨locs, hLe⟩ : ∃ x : List Loc, ([] : List Loc) = x := ⟨_, rfl⟩
  rw [hLe]
  have hS : va_S (aT 30 q) s.heap H locs := by rw [← hHe, ← hLe]; exact va_S.rf
  refine lv_iload_n hx hb dX6_day_0 rfl (lv_at hl 1 rfl) ?_
  refine lv_aload_n hx hb dX6_day_1 rfl (lv_at hl 0 rfl) ?_
  refine va_get (D := (dC, dI)) (ci := 6) (v := .int (σ.2.1 0)) (C := RX6) (T := TX6) (N := 6) hx hb hts inX6 hown hK hP 0 rfl rfl 5 (by decide) (hts _ fl_X6_48) (fun _ h9 => h9) rfl dX6_day_2 ?_
  refine lv_icmp_le (tgt := 15) hx hb dX6_day_5 (by decide) (fun c_5 => ?_) (fun c_5 => ?_)
  · refine lv_iconst (v := 0) hx hb dX6_day_15 (by decide) ?_
    have hF : fX6_day σ p1 = (0, σ) := by rw [fX6_day, if_pos c_5]
    have hP9 : va_P (dC, dI) vwCl (wT cI cJ q (fX6_day σ p1).2) H := by rw [hF]; exact hP
    exact W.zret (v := 0) hx hb hr narrow_b0 (fun t ht hW => ⟨(by rw [hF]), by rw [ht]; exact hP9, hS.F ht⟩) hS.2.2 dX6_day_16
  · refine lv_iload_n hx hb dX6_day_8 rfl (lv_at hl 1 rfl) ?_
    refine lv_sipush (v := 2000) hx hb dX6_day_9 (by decide) ?_
    refine lv_icmp_le (tgt := 17) hx hb dX6_day_12 (by decide) (fun c_12 => ?_) (fun c_12 => ?_)
    · refine lv_aload_n hx hb dX6_day_17 rfl (lv_at hl 0 rfl) ?_
      refine lv_iload_n hx hb dX6_day_18 rfl (lv_at hl 1 rfl) ?_
      refine va_put (D := (dC, dI)) (ci := 6) (v := .int p1) (ty := .int) (C := RX6) (T := TX6) (N := 6) hx hb hts inX6 tyX6 tyX6_ok nmX6 hown hK hP (wT_D hd) hS 0 rfl rfl 5 (by decide) (hts _ fl_X6_48) (fun _ h9 => h9) rfl (by decide +kernel) rfl rfl (Nat.le_of_ble_eq_true rfl) dX6_day_19 (fun H locs hP _ hS => ?_)
      have hP : va_P (dC, dI) vwCl (wT cI cJ q (sV σ 0 p1)) H := hP
      refine lv_iconst (v := 1) hx hb dX6_day_22 (by decide) ?_
      have hF : fX6_day σ p1 = (1, (sV σ 0 p1)) := by rw [fX6_day, if_neg c_5, if_pos c_12]
      have hP9 : va_P (dC, dI) vwCl (wT cI cJ q (fX6_day σ p1).2) H := by rw [hF]; exact hP
      exact W.zret (v := 1) hx hb hr narrow_b1 (fun t ht hW => ⟨(by rw [hF]), by rw [ht]; exact hP9, hS.F ht⟩) hS.2.2 dX6_day_23
    · refine lv_iconst (v := 0) hx hb dX6_day_15 (by decide) ?_
      have hF : fX6_day σ p1 = (0, σ) := by rw [fX6_day, if_neg c_5, if_neg c_12]
      have hP9 : va_P (dC, dI) vwCl (wT cI cJ q (fX6_day σ p1).2) H := by rw [hF]; exact hP
      exact W.zret (v := 0) hx hb hr narrow_b0 (fun t ht hW => ⟨(by rw [hF]), by rw [ht]; exact hP9, hS.F ht⟩) hS.2.2 dX6_day_16

def fX6_born (σ : St) (p1 : Int32) (p2 : Int32) : Int32 × St :=
  (if (fX6_isCode σ p1) = 0 then ((-2), σ) else (if (fX6_isDay σ p2) = 0 then ((-2), σ) else (if (fX5_isTaken σ p1 p2 (-1) (-1)) = 0 then (if 1 ≤ (40 - (σ.2.1 1)) then ((fX5_add σ p1 p2 (σ.2.1 0)).1, (fX5_add σ p1 p2 (σ.2.1 0)).2) else ((-4), σ)) else ((-3), σ))))
set_option maxHeartbeats 4000000 in
set_option maxRecDepth 100000 in
theorem c_X6_born (l : Launch) (dC : Nat → ClassId) (dI : Nat → Nat → Nat) (cI cJ : ClassId) (q : Nat → Nat) (σ : St) (p1 : Int32) (p2 : Int32) (hd : dT 30 q) (hI : IB σ) : Met l yX6_born (.code yX6_born cX6_born 3 (some .int) :: tb) { frames := 2, cells := 0, slots := 0, locals := 43 } (Pu (dC, dI) (tyC cI cJ) (wT cI cJ q σ) [.ref (q 0), .int p1, .int p2]) (xw_Q (some (.int (fX6_born σ p1 p2).1)) (dC, dI) (wT cI cJ q (fX6_born σ p1 p2).2) (aT 30 q)) 0 0 (aT 30 q) := by
  refine Met.ofW (cc := cX6_born) (maxL := 3) (ret := (some .int)) (by decide) rfl ?_
  intro p e s m args below meth c s₁ B hml hv
  obtain ⟨rfl, hP, hK⟩ := hv
  have hx := B.exec
  have hb := B.bytes
  have hr := B.returns
  have hts0 := atoms_spec (ws := .code yX6_born cX6_born 3 (some .int) :: tb) B.pre
  have hts : ∀ w ∈ tb, w.before _ s = true := fun w hw => hts0 w (List.mem_cons_of_mem _ hw)
  have hown : s.vm.findClass RX6 = some m.cls := findClass_of_methodNamed B.named
  have hlocks := B.notSynchronized
  have hl := lv_entry ([.ref (q 0), .int p1, .int p2]) (n := 3) (Nat.le_of_ble_eq_true rfl)
  rw [lg_entry_eq]
  generalize (lg_sl ([.ref (q 0), .int p1, .int p2]) ++ List.replicate (3 - (lg_sl ([.ref (q 0), .int p1, .int p2])).length) Slot.unset).toArray = ls at hl ⊢
  have hl : lv_has ls 3 [(0, .ref (q 0)), (1, .int p1), (2, .int p2)] := hl
  obtain ⟨H, hHe⟩ : ∃ H, s.heap = H := ⟨_, rfl⟩
  rw [hHe] at hP ⊢
  obtain ⟨locs, hLe⟩ : ∃ x : List Loc, ([] : List Loc) = x := ⟨_, rfl⟩
  rw [hLe]
  have hS : va_S (aT 30 q) s.heap H locs := by rw [← hHe, ← hLe]; exact va_S.rf
  refine lv_iload_n hx hb dX6_born_0 rfl (lv_at hl 1 rfl) ?_
  refine xc_i (va_runS (As := [.int p1]) (rest := []) ⟨hx, hb, hml, hown, hts⟩ (c_X6_isCode l dC dI cI cJ q σ p1) (va_cwS 1 hts (gS ml_X6_52 st_X6_isCode in_X6 co_X6_isCode) rfl rfl rfl (by decide +kernel) ⟨Nat.le_of_ble_eq_true rfl, Nat.le_of_ble_eq_true rfl⟩) (preS hK hP) rfl rfl hl.1 rfl (lv_room (Nat.le_of_ble_eq_true rfl)) dX6_born_1 ⟨Nat.zero_le _, Nat.zero_le _⟩) ?_
  refine lv_if_eq (tgt := 14) hx hb dX6_born_4 (by decide) (fun c_4 => ?_) (fun c_4 => ?_)
  · refine lv_bipush (v := (-2)) hx hb dX6_born_14 (by decide) ?_
    have hF : fX6_born σ p1 p2 = ((-2), σ) := by rw [fX6_born, if_pos c_4]
    have hP9 : va_P (dC, dI) vwCl (wT cI cJ q (fX6_born σ p1 p2).2) H := by rw [hF]; exact hP
    exact W.iret (v := (-2)) hx hb hr (fun t ht hW => ⟨(by rw [hF]), by rw [ht]; exact hP9, hS.F ht⟩) hS.2.2 dX6_born_16
  · refine lv_iload_n hx hb dX6_born_7 rfl (lv_at hl 2 rfl) ?_
    refine xc_i (va_runS (As := [.int p2]) (rest := []) ⟨hx, hb, hml, hown, hts⟩ (c_X6_isDay l dC dI cI cJ q σ p2) (va_cwS 1 hts (gS ml_X6_56 st_X6_isDay in_X6 co_X6_isDay) rfl rfl rfl (by decide +kernel) ⟨Nat.le_of_ble_eq_true rfl, Nat.le_of_ble_eq_true rfl⟩) (preS hK hP) rfl rfl hl.1 rfl (lv_room (Nat.le_of_ble_eq_true rfl)) dX6_born_8 ⟨Nat.zero_le _, Nat.zero_le _⟩) ?_
    refine lv_if_ne (tgt := 17) hx hb dX6_born_11 (by decide) (fun c_11 => ?_) (fun c_11 => ?_)
    · refine lv_aload_n hx hb dX6_born_17 rfl (lv_at hl 0 rfl) ?_
      refine va_get (D := (dC, dI)) (ci := 6) (v := .ref (q 3)) (C := RX6) (T := TX6) (N := 6) hx hb hts inX6 hown hK hP 0 rfl rfl 1 (by decide) (hts _ fl_X6_19) (fun _ h9 => h9) rfl dX6_born_18 ?_
      refine lv_iload_n hx hb dX6_born_21 rfl (lv_at hl 1 rfl) ?_
      refine lv_iload_n hx hb dX6_born_22 rfl (lv_at hl 2 rfl) ?_
      refine lv_iconst (v := (-1)) hx hb dX6_born_23 (by decide) ?_
      refine lv_iconst (v := (-1)) hx hb dX6_born_24 (by decide) ?_
      refine xc_i (va_runV (As := [.int p1, .int p2, .int (-1), .int (-1)]) (rest := []) ⟨hx, hb, hml, hown, hts⟩ (c_X5_isTaken l dC dI cI cJ q σ p1 p2 (-1) (-1) (by assumption)) (cwV 4 hts (gV ml_X6_59 im_X5_isTaken se_X5_isTaken in_X5 co_X5_isTaken) rfl rfl rfl (by decide +kernel) ⟨Nat.le_of_ble_eq_true rfl, Nat.le_of_ble_eq_true rfl⟩) (preV hK hP (pos := 3) (ci := 5) rfl rfl) rfl rfl hl.1 rfl (lv_room (Nat.le_of_ble_eq_true rfl)) dX6_born_25 ⟨Nat.zero_le _, Nat.zero_le _⟩) ?_
      refine lv_if_eq (tgt := 34) hx hb dX6_born_28 (by decide) (fun c_28 => ?_) (fun c_28 => ?_)
      · refine lv_aload_n hx hb dX6_born_34 rfl (lv_at hl 0 rfl) ?_
        refine va_get (D := (dC, dI)) (ci := 6) (v := .ref (q 3)) (C := RX6) (T := TX6) (N := 6) hx hb hts inX6 hown hK hP 0 rfl rfl 1 (by decide) (hts _ fl_X6_19) (fun _ h9 => h9) rfl dX6_born_35 ?_
        refine xc_i (va_runV (As := []) (rest := []) ⟨hx, hb, hml, hown, hts⟩ (c_X5_room l dC dI cI cJ q σ ) (cwV 0 hts (gV ml_X6_63 im_X5_room se_X5_room in_X5 co_X5_room) rfl rfl rfl (by decide +kernel) ⟨Nat.le_of_ble_eq_true rfl, Nat.le_of_ble_eq_true rfl⟩) (preV hK hP (pos := 3) (ci := 5) rfl rfl) rfl rfl hl.1 rfl (lv_room (Nat.le_of_ble_eq_true rfl)) dX6_born_38 ⟨Nat.zero_le _, Nat.zero_le _⟩) ?_
        refine lv_iconst (v := 1) hx hb dX6_born_41 (by decide) ?_
        refine lv_icmp_ge (tgt := 48) hx hb dX6_born_42 (by decide) (fun c_42 => ?_) (fun c_42 => ?_)
        · refine lv_aload_n hx hb dX6_born_48 rfl (lv_at hl 0 rfl) ?_
          refine va_get (D := (dC, dI)) (ci := 6) (v := .ref (q 3)) (C := RX6) (T := TX6) (N := 6) hx hb hts inX6 hown hK hP 0 rfl rfl 1 (by decide) (hts _ fl_X6_19) (fun _ h9 => h9) rfl dX6_born_49 ?_
          refine lv_iload_n hx hb dX6_born_52 rfl (lv_at hl 1 rfl) ?_
          refine lv_iload_n hx hb dX6_born_53 rfl (lv_at hl 2 rfl) ?_
          refine lv_aload_n hx hb dX6_born_54 rfl (lv_at hl 0 rfl) ?_
          refine va_get (D := (dC, dI)) (ci := 6) (v := .int (σ.2.1 0)) (C := RX6) (T := TX6) (N := 6) hx hb hts inX6 hown hK hP 0 rfl rfl 5 (by decide) (hts _ fl_X6_48) (fun _ h9 => h9) rfl dX6_born_55 ?_
          refine xw_c (va_runV (As := [.int p1, .int p2, .int (σ.2.1 0)]) (rest := []) ⟨hx, hb, hml, hown, hts⟩ (c_X5_add l dC dI cI cJ q σ p1 p2 (σ.2.1 0) (by assumption) (by assumption)) (cwV 3 hts (gV ml_X6_67 im_X5_add se_X5_add in_X5 co_X5_add) rfl rfl rfl (by decide +kernel) ⟨Nat.le_of_ble_eq_true rfl, Nat.le_of_ble_eq_true rfl⟩) (preV hK hP (pos := 3) (ci := 5) rfl rfl) rfl rfl hl.1 rfl (lv_room (Nat.le_of_ble_eq_true rfl)) dX6_born_58 ⟨Nat.zero_le _, Nat.zero_le _⟩) hS (fun _ h => h) (fun H locs hP _ _ hS => ?_)
          have hP : va_P (dC, dI) vwCl (wT cI cJ q (fX5_add σ p1 p2 (σ.2.1 0)).2) H := hP
          refine W.eq (g2 := F0 m 61 ls [.int ((fX5_add σ p1 p2 (σ.2.1 0)).1)]) rfl ?_
          have hF : fX6_born σ p1 p2 = ((fX5_add σ p1 p2 (σ.2.1 0)).1, (fX5_add σ p1 p2 (σ.2.1 0)).2) := by rw [fX6_born, if_neg c_4, if_neg c_11, if_pos c_28, if_pos c_42]
          have hP9 : va_P (dC, dI) vwCl (wT cI cJ q (fX6_born σ p1 p2).2) H := by rw [hF]; exact hP
          exact W.iret (v := (fX5_add σ p1 p2 (σ.2.1 0)).1) hx hb hr (fun t ht hW => ⟨(by rw [hF]), by rw [ht]; exact hP9, hS.F ht⟩) hS.2.2 dX6_born_61
        · refine lv_bipush (v := (-4)) hx hb dX6_born_45 (by decide) ?_
          have hF : fX6_born σ p1 p2 = ((-4), σ) := by rw [fX6_born, if_neg c_4, if_neg c_11, if_pos c_28, if_neg c_42]
          have hP9 : va_P (dC, dI) vwCl (wT cI cJ q (fX6_born σ p1 p2).2) H := by rw [hF]; exact hP
          exact W.iret (v := (-4)) hx hb hr (fun t ht hW => ⟨(by rw [hF]), by rw [ht]; exact hP9, hS.F ht⟩) hS.2.2 dX6_born_47
      · refine lv_bipush (v := (-3)) hx hb dX6_born_31 (by decide) ?_
        have hF : fX6_born σ p1 p2 = ((-3), σ) := by rw [fX6_born, if_neg c_4, if_neg c_11, if_neg c_28]
        have hP9 : va_P (dC, dI) vwCl (wT cI cJ q (fX6_born σ p1 p2).2) H := by rw [hF]; exact hP
        exact W.iret (v := (-3)) hx hb hr (fun t ht hW => ⟨(by rw [hF]), by rw [ht]; exact hP9, hS.F ht⟩) hS.2.2 dX6_born_33
    · refine lv_bipush (v := (-2)) hx hb dX6_born_14 (by decide) ?_
      have hF : fX6_born σ p1 p2 = ((-2), σ) := by rw [fX6_born, if_neg c_4, if_pos c_11]
      have hP9 : va_P (dC, dI) vwCl (wT cI cJ q (fX6_born σ p1 p2).2) H := by rw [hF]; exact hP
      exact W.iret (v := (-2)) hx hb hr (fun t ht hW => ⟨(by rw [hF]), by rw [ht]; exact hP9, hS.F ht⟩) hS.2.2 dX6_born_16

def fX6_ends (σ : St) (p1 : Int32) (p2 : Int32) : Int32 × St :=
  (if (fX6_canEnd σ p1 p2) = 0 then (0, σ) else (1, (fX5_finish σ p1 p2 (σ.2.1 0) 1 (-1))))
set_option maxHeartbeats 4000000 in
set_option maxRecDepth 100000 in
theorem c_X6_ends (l : Launch) (dC : Nat → ClassId) (dI : Nat → Nat → Nat) (cI cJ : ClassId) (q : Nat → Nat) (σ : St) (p1 : Int32) (p2 : Int32) (hd : dT 30 q) (hI : IB σ) : Met l yX6_ends (.code yX6_ends cX6_ends 3 (some .boolean) :: tb) { frames := 2, cells := 0, slots := 0, locals := 43 } (Pu (dC, dI) (tyC cI cJ) (wT cI cJ q σ) [.ref (q 0), .int p1, .int p2]) (xw_Q (some (.int (fX6_ends σ p1 p2).1)) (dC, dI) (wT cI cJ q (fX6_ends σ p1 p2).2) (aT 30 q)) 0 0 (aT 30 q) := by
  refine Met.ofW (cc := cX6_ends) (maxL := 3) (ret := (some .boolean)) (by decide) rfl ?_
  intro p e s m args below meth c s₁ B hml hv
  obtain ⟨rfl, hP, hK⟩ := hv
  have hx := B.exec
  have hb := B.bytes
  have hr := B.returns
  have hts0 := atoms_spec (ws := .code yX6_ends cX6_ends 3 (some .boolean) :: tb) B.pre
  have hts : ∀ w ∈ tb, w.before _ s = true := fun w hw => hts0 w (List.mem_cons_of_mem _ hw)
  have hown : s.vm.findClass RX6 = some m.cls := findClass_of_methodNamed B.named
  have hlocks := B.notSynchronized
  have hl := lv_entry ([.ref (q 0), .int p1, .int p2]) (n := 3) (Nat.le_of_ble_eq_true rfl)
  rw [lg_entry_eq]
  generalize (lg_sl ([.ref (q 0), .int p1, .int p2]) ++ List.replicate (3 - (lg_sl ([.ref (q 0), .int p1, .int p2])).length) Slot.unset).toArray = ls at hl ⊢
  have hl : lv_has ls 3 [(0, .ref (q 0)), (1, .int p1), (2, .int p2)] := hl
  obtain ⟨H, hHe⟩ : ∃ H, s.heap = H := ⟨_, rfl⟩
  rw [hHe] at hP ⊢
  obtain ⟨locs, hLe⟩ : ∃ x : List Loc, ([] : List Loc) = x := ⟨_, rfl⟩
  rw [hLe]
  have hS : va_S (aT 30 q) s.heap H locs := by rw [← hHe, ← hLe]; exact va_S.rf
  refine lv_aload_n hx hb dX6_ends_0 rfl (lv_at hl 0 rfl) ?_
  refine lv_iload_n hx hb dX6_ends_1 rfl (lv_at hl 1 rfl) ?_
  refine lv_iload_n hx hb dX6_ends_2 rfl (lv_at hl 2 rfl) ?_
  refine xc_i (va_runV (As := [.int p1, .int p2]) (rest := []) ⟨hx, hb, hml, hown, hts⟩ (c_X6_canEnd l dC dI cI cJ q σ p1 p2 (by assumption)) (cwV 2 hts (gV ml_X6_71 im_X6_canEnd se_X6_canEnd in_X6 co_X6_canEnd) rfl rfl rfl (by decide +kernel) ⟨Nat.le_of_ble_eq_true rfl, Nat.le_of_ble_eq_true rfl⟩) (preV hK hP (pos := 0) (ci := 6) rfl rfl) rfl rfl hl.1 rfl (lv_room (Nat.le_of_ble_eq_true rfl)) dX6_ends_3 ⟨Nat.zero_le _, Nat.zero_le _⟩) ?_
  refine lv_if_ne (tgt := 11) hx hb dX6_ends_6 (by decide) (fun c_6 => ?_) (fun c_6 => ?_)
  · refine lv_aload_n hx hb dX6_ends_11 rfl (lv_at hl 0 rfl) ?_
    refine va_get (D := (dC, dI)) (ci := 6) (v := .ref (q 3)) (C := RX6) (T := TX6) (N := 6) hx hb hts inX6 hown hK hP 0 rfl rfl 1 (by decide) (hts _ fl_X6_19) (fun _ h9 => h9) rfl dX6_ends_12 ?_
    refine lv_iload_n hx hb dX6_ends_15 rfl (lv_at hl 1 rfl) ?_
    refine lv_iload_n hx hb dX6_ends_16 rfl (lv_at hl 2 rfl) ?_
    refine lv_aload_n hx hb dX6_ends_17 rfl (lv_at hl 0 rfl) ?_
    refine va_get (D := (dC, dI)) (ci := 6) (v := .int (σ.2.1 0)) (C := RX6) (T := TX6) (N := 6) hx hb hts inX6 hown hK hP 0 rfl rfl 5 (by decide) (hts _ fl_X6_48) (fun _ h9 => h9) rfl dX6_ends_18 ?_
    refine lv_iconst (v := 1) hx hb dX6_ends_21 (by decide) ?_
    refine lv_iconst (v := (-1)) hx hb dX6_ends_22 (by decide) ?_
    refine xw_c (va_runV (As := [.int p1, .int p2, .int (σ.2.1 0), .int 1, .int (-1)]) (rest := []) ⟨hx, hb, hml, hown, hts⟩ (c_X5_finish l dC dI cI cJ q σ p1 p2 (σ.2.1 0) 1 (-1) (by assumption) (canEnd_in hI c_6)) (cwV 5 hts (gV ml_X6_75 im_X5_finish se_X5_finish in_X5 co_X5_finish) rfl rfl rfl (by decide +kernel) ⟨Nat.le_of_ble_eq_true rfl, Nat.le_of_ble_eq_true rfl⟩) (preV hK hP (pos := 3) (ci := 5) rfl rfl) rfl rfl hl.1 rfl (lv_room (Nat.le_of_ble_eq_true rfl)) dX6_ends_23 ⟨Nat.zero_le _, Nat.zero_le _⟩) hS (fun _ h => h) (fun H locs hP _ _ hS => ?_)
    have hP : va_P (dC, dI) vwCl (wT cI cJ q (fX5_finish σ p1 p2 (σ.2.1 0) 1 (-1))) H := hP
    refine W.eq (g2 := F0 m 26 ls []) rfl ?_
    refine lv_iconst (v := 1) hx hb dX6_ends_26 (by decide) ?_
    have hF : fX6_ends σ p1 p2 = (1, (fX5_finish σ p1 p2 (σ.2.1 0) 1 (-1))) := by rw [fX6_ends, if_neg c_6]
    have hP9 : va_P (dC, dI) vwCl (wT cI cJ q (fX6_ends σ p1 p2).2) H := by rw [hF]; exact hP
    exact W.zret (v := 1) hx hb hr narrow_b1 (fun t ht hW => ⟨(by rw [hF]), by rw [ht]; exact hP9, hS.F ht⟩) hS.2.2 dX6_ends_27
  · refine lv_iconst (v := 0) hx hb dX6_ends_9 (by decide) ?_
    have hF : fX6_ends σ p1 p2 = (0, σ) := by rw [fX6_ends, if_pos c_6]
    have hP9 : va_P (dC, dI) vwCl (wT cI cJ q (fX6_ends σ p1 p2).2) H := by rw [hF]; exact hP
    exact W.zret (v := 0) hx hb hr narrow_b0 (fun t ht hW => ⟨(by rw [hF]), by rw [ht]; exact hP9, hS.F ht⟩) hS.2.2 dX6_ends_10
