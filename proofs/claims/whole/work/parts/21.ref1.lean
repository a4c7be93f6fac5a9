def fX7_isIn (σ : St) (p1 : Int32) (p2 : Int32) (p3 : Int32) : Int32 :=
  (if p1 < p2 then 0 else (if p3 < p1 then 0 else 1))
set_option maxHeartbeats 4000000 in
set_option maxRecDepth 100000 in
theorem c_X7_isIn (l : Launch) (dC : Nat → ClassId) (dI : Nat → Nat → Nat) (cI cJ : ClassId) (q : Nat → Nat) (σ : St) (p1 : Int32) (p2 : Int32) (p3 : Int32) : Met l yX7_isIn (.code yX7_isIn cX7_isIn 3 (some .boolean) :: tb) { frames := 0, cells := 0, slots := 0, locals := 0 } (Pu (dC, dI) (tyC cI cJ) (wM cI cJ q σ) [.int p1, .int p2, .int p3]) (vp_Si (fun r => r = fX7_isIn σ p1 p2 p3)) 0 0 (fun _ => False) := by
  refine Met.ofW (cc := cX7_isIn) (maxL := 3) (ret := (some .boolean)) (by decide) rfl ?_
  intro p e s m args below meth c s₁ B hml hv
  obtain ⟨rfl, hP, hK⟩ := hv
  have hx := B.exec
  have hb := B.bytes
  have hr := B.returns
  have hts0 := atoms_spec (ws := .code yX7_isIn cX7_isIn 3 (some .boolean) :: tb) B.pre
  have hts : ∀ w ∈ tb, w.before _ s = true := fun w hw => hts0 w (List.mem_cons_of_mem _ hw)
  have hown : s.vm.findClass RX7 = some m.cls := findClass_of_methodNamed B.named
  have hlocks := B.notSynchronized
  have hl := lv_entry ([.int p1, .int p2, .int p3]) (n := 3) (Nat.le_of_ble_eq_true rfl)
  rw [lg_entry_eq]
  generalize (lg_sl ([.int p1, .int p2, .int p3]) ++ List.replicate (3 - (lg_sl ([.int p1, .int p2, .int p3])).length) Slot.unset).toArray = ls at hl ⊢
  have hl : lv_has ls 3 [(0, .int p1), (1, .int p2), (2, .int p3)] := hl
  refine lv_iload_n hx hb dX7_isIn_0 rfl (lv_at hl 0 rfl) ?_
  refine lv_iload_n hx hb dX7_isIn_1 rfl (lv_at hl 1 rfl) ?_
  refine lv_icmp_lt (tgt := 14) hx hb dX7_isIn_2 (by decide) (fun c_2 => ?_) (fun c_2 => ?_)
  · refine lv_iconst (v := 0) hx hb dX7_isIn_14 (by decide) ?_
    exact W.zret (v := 0) hx hb hr narrow_b0 (fun t ht hW => ⟨_, rfl, (by rw [fX7_isIn, if_pos c_2]), ht⟩) (fun _ h => absurd h List.not_mem_nil) dX7_isIn_15
  · refine lv_iload_n hx hb dX7_isIn_5 rfl (lv_at hl 0 rfl) ?_
    refine lv_iload_n hx hb dX7_isIn_6 rfl (lv_at hl 2 rfl) ?_
    refine lv_icmp_gt (tgt := 14) hx hb dX7_isIn_7 (by decide) (fun c_7 => ?_) (fun c_7 => ?_)
    · refine lv_iconst (v := 0) hx hb dX7_isIn_14 (by decide) ?_
      exact W.zret (v := 0) hx hb hr narrow_b0 (fun t ht hW => ⟨_, rfl, (by rw [fX7_isIn, if_neg c_2, if_pos c_7]), ht⟩) (fun _ h => absurd h List.not_mem_nil) dX7_isIn_15
    · refine lv_iconst (v := 1) hx hb dX7_isIn_10 (by decide) ?_
      refine lv_goto (tgt := 15) hx hb dX7_isIn_11 (by decide) ?_
      exact W.zret (v := 1) hx hb hr narrow_b1 (fun t ht hW => ⟨_, rfl, (by rw [fX7_isIn, if_neg c_2, if_neg c_7]), ht⟩) (fun _ h => absurd h List.not_mem_nil) dX7_isIn_15

theorem b_X7_isIn (σ : St) (p1 : Int32) (p2 : Int32) (p3 : Int32) : fX7_isIn σ p1 p2 p3 = 0 ∨ fX7_isIn σ p1 p2 p3 = 1 := by
  unfold fX7_isIn
  repeat' split
  all_goals first | exact Or.inl rfl | exact Or.inr rfl

theorem isIn_in {σ : St} {x z : Int32} {N : Nat} (h : szI z N) (hN : N < 2 ^ 31) (c : ¬ fX7_isIn σ x 0 (z - 1) = 0) : vp_in x z.toNatClampNeg := by
  unfold fX7_isIn at c
  split at c
  · exact absurd rfl c
  · rename_i h1
    split at c
    · exact absurd rfl c
    · rename_i h2
      obtain ⟨g1, g2⟩ := h
      obtain ⟨j, hj, rfl⟩ := nI_of h1
      rw [g1] at h2
      cases hz : z.toNatClampNeg with
      | zero =>
        rw [hz] at h2
        exact absurd (Int32.lt_of_lt_of_le (show nI 0 - 1 < 0 by decide) (nI_pos' hj)) h2
      | succ n =>
        rw [hz, nI_pred] at h2
        refine vp_in_nI ?_ (by omega)
        rcases Nat.lt_or_ge j (n + 1) with q | q
        · exact q
        · exact absurd (nI_lt (show n < j by omega) hj) h2
theorem isIn_in40 {σ : St} {x : Int32} (hI : IB σ) (c : ¬ fX7_isIn σ x 0 (σ.2.1 1 - 1) = 0) : vp_in x 40 := vp_in_mono (isIn_in hI.1 (by decide) c) hI.1.2
theorem sz_ne {z : Int32} {N : Nat} (h : szI z N) (hN : N < 2 ^ 31) (c : ¬ z = nI N) : vp_in z N := by
  obtain ⟨h1, h2⟩ := h
  rw [h1] at c ⊢
  refine vp_in_nI ?_ hN
  rcases Nat.lt_or_ge z.toNatClampNeg N with q | q
  · exact q
  · exact absurd (by rw [show z.toNatClampNeg = N by omega]) c
theorem sz_38 {z : Int32} (h : szI z 40) (c : z ≤ 38) : vp_in z 40 ∧ vp_in (z + 1) 40 := by
  obtain ⟨h1, h2⟩ := h
  rw [h1] at c ⊢
  have : z.toNatClampNeg ≤ 38 := (nI_leI (by omega) (by decide)).mp (show nI z.toNatClampNeg ≤ nI 38 from c)
  refine ⟨vp_in_nI (by omega) (by decide), ?_⟩
  rw [nI_1]
  exact vp_in_nI (by omega) (by decide)
/-- the reference's things: a part or a join has its heirs behind it -/
def HM (σ : St) : Prop := ∀ t, t < (σ.2.1 1).toNatClampNeg → (σ.1 5 t = 2 → ¬ σ.1 8 t = 0 ∧ ∃ h, σ.1 6 t = nI h ∧ t < h ∧ h + 1 < (σ.2.1 1).toNatClampNeg) ∧ (σ.1 5 t = 3 → ∃ h, σ.1 6 t = nI h ∧ t < h ∧ h < (σ.2.1 1).toNatClampNeg)
theorem hm_2 {σ : St} {x : Int32} {k : Nat} (hI : IB σ) (hW : HM σ) (hT : vp_in x (σ.2.1 1).toNatClampNeg) (hk : (σ.2.1 1).toNatClampNeg ≤ x.toNatClampNeg + (k + 1)) (c : σ.1 5 x.toNatClampNeg = 2) : (vp_in (σ.1 6 x.toNatClampNeg) (σ.2.1 1).toNatClampNeg ∧ (σ.2.1 1).toNatClampNeg ≤ (σ.1 6 x.toNatClampNeg).toNatClampNeg + k) ∧ (vp_in (σ.1 6 x.toNatClampNeg + 1) (σ.2.1 1).toNatClampNeg ∧ (σ.2.1 1).toNatClampNeg ≤ (σ.1 6 x.toNatClampNeg + 1).toNatClampNeg + k) := by
  have h2 := hI.1.2
  obtain ⟨-, h, e, h3, h4⟩ := (hW _ (vp_in_lt hT)).1 c
  rw [e, nI_1, nI_clamp (by omega), nI_clamp (by omega)]
  exact ⟨⟨vp_in_nI (by omega) (by omega), by omega⟩, ⟨vp_in_nI (by omega) (by omega), by omega⟩⟩
theorem hm_3 {σ : St} {x : Int32} {k : Nat} (hI : IB σ) (hW : HM σ) (hT : vp_in x (σ.2.1 1).toNatClampNeg) (hk : (σ.2.1 1).toNatClampNeg ≤ x.toNatClampNeg + (k + 1)) (c : σ.1 5 x.toNatClampNeg = 3) : vp_in (σ.1 6 x.toNatClampNeg) (σ.2.1 1).toNatClampNeg ∧ (σ.2.1 1).toNatClampNeg ≤ (σ.1 6 x.toNatClampNeg).toNatClampNeg + k := by
  have h2 := hI.1.2
  obtain ⟨h, e, h3, h4⟩ := (hW _ (vp_in_lt hT)).2 c
  rw [e, nI_clamp (by omega)]
  exact ⟨vp_in_nI (by omega) (by omega), by omega⟩

set_option maxHeartbeats 4000000 in
set_option maxRecDepth 100000 in
theorem c_X7_isDay (l : Launch) (dC : Nat → ClassId) (dI : Nat → Nat → Nat) (cI cJ : ClassId) (q : Nat → Nat) (σ : St) (p1 : Int32) : Met l yX7_isDay (.code yX7_isDay cX7_isDay 1 (some .boolean) :: tb) { frames := 1, cells := 0, slots := 0, locals := 22 } (Pu (dC, dI) (tyC cI cJ) (wM cI cJ q σ) [.int p1]) (vp_Si (fun r => r = fX7_isIn σ p1 0 2000)) 0 0 (fun _ => False) := by
  refine Met.ofW (cc := cX7_isDay) (maxL := 1) (ret := (some .boolean)) (by decide) rfl ?_
  intro p e s m args below meth c s₁ B hml hv
  obtain ⟨rfl, hP, hK⟩ := hv
  have hx := B.exec
  have hb := B.bytes
  have hr := B.returns
  have hts0 := atoms_spec (ws := .code yX7_isDay cX7_isDay 1 (some .boolean) :: tb) B.pre
  have hts : ∀ w ∈ tb, w.before _ s = true := fun w hw => hts0 w (List.mem_cons_of_mem _ hw)
  have hown : s.vm.findClass RX7 = some m.cls := findClass_of_methodNamed B.named
  have hlocks := B.notSynchronized
  have hl := lv_entry ([.int p1]) (n := 1) (Nat.le_of_ble_eq_true rfl)
  rw [lg_entry_eq]
  generalize (lg_sl ([.int p1]) ++ List.replicate (1 - (lg_sl ([.int p1])).length) Slot.unset).toArray = ls at hl ⊢
  have hl : lv_has ls 1 [(0, .int p1)] := hl
  refine lv_iload_n hx hb dX7_isDay_0 rfl (lv_at hl 0 rfl) ?_
  refine lv_iconst (v := 0) hx hb dX7_isDay_1 (by decide) ?_
  refine lv_sipush (v := 2000) hx hb dX7_isDay_2 (by decide) ?_
  refine xc_i (va_runS (As := [.int p1, .int 0, .int 2000]) (rest := []) ⟨hx, hb, hml, hown, hts⟩ (c_X7_isIn l dC dI cI cJ q σ p1 0 2000) (va_cwS 3 hts (gS ml_X7_73 st_X7_isIn in_X7 co_X7_isIn) rfl rfl rfl (by decide +kernel) ⟨Nat.le_of_ble_eq_true rfl, Nat.le_of_ble_eq_true rfl⟩) (preS hK hP) rfl rfl hl.1 rfl (lv_room (Nat.le_of_ble_eq_true rfl)) dX7_isDay_5 ⟨Nat.zero_le _, Nat.zero_le _⟩) ?_
  exact W.zret (v := fX7_isIn σ p1 0 2000) hx hb hr (nb_of (b_X7_isIn σ p1 0 2000)) (fun t ht hW => ⟨_, rfl, rfl, ht⟩) (fun _ h => absurd h List.not_mem_nil) dX7_isDay_8

set_option maxHeartbeats 4000000 in
set_option maxRecDepth 100000 in
theorem c_X7_isCode (l : Launch) (dC : Nat → ClassId) (dI : Nat → Nat → Nat) (cI cJ : ClassId) (q : Nat → Nat) (σ : St) (p1 : Int32) : Met l yX7_isCode (.code yX7_isCode cX7_isCode 1 (some .boolean) :: tb) { frames := 1, cells := 0, slots := 0, locals := 22 } (Pu (dC, dI) (tyC cI cJ) (wM cI cJ q σ) [.int p1]) (vp_Si (fun r => r = fX7_isIn σ p1 0 99)) 0 0 (fun _ => False) := by
  refine Met.ofW (cc := cX7_isCode) (maxL := 1) (ret := (some .boolean)) (by decide) rfl ?_
  intro p e s m args below meth c s₁ B hml hv
  obtain ⟨rfl, hP, hK⟩ := hv
  have hx := B.exec
  have hb := B.bytes
  have hr := B.returns
  have hts0 := atoms_spec (ws := .code yX7_isCode cX7_isCode 1 (some .boolean) :: tb) B.pre
  have hts : ∀ w ∈ tb, w.before _ s = true := fun w hw => hts0 w (List.mem_cons_of_mem _ hw)
  have hown : s.vm.findClass RX7 = some m.cls := findClass_of_methodNamed B.named
  have hlocks := B.notSynchronized
  have hl := lv_entry ([.int p1]) (n := 1) (Nat.le_of_ble_eq_true rfl)
  rw [lg_entry_eq]
  generalize (lg_sl ([.int p1]) ++ List.replicate (1 - (lg_sl ([.int p1])).length) Slot.unset).toArray = ls at hl ⊢
  have hl : lv_has ls 1 [(0, .int p1)] := hl
  refine lv_iload_n hx hb dX7_isCode_0 rfl (lv_at hl 0 rfl) ?_
  refine lv_iconst (v := 0) hx hb dX7_isCode_1 (by decide) ?_
  refine lv_bipush (v := 99) hx hb dX7_isCode_2 (by decide) ?_
  refine xc_i (va_runS (As := [.int p1, .int 0, .int 99]) (rest := []) ⟨hx, hb, hml, hown, hts⟩ (c_X7_isIn l dC dI cI cJ q σ p1 0 99) (va_cwS 3 hts (gS ml_X7_73 st_X7_isIn in_X7 co_X7_isIn) rfl rfl rfl (by decide +kernel) ⟨Nat.le_of_ble_eq_true rfl, Nat.le_of_ble_eq_true rfl⟩) (preS hK hP) rfl rfl hl.1 rfl (lv_room (Nat.le_of_ble_eq_true rfl)) dX7_isCode_4 ⟨Nat.zero_le _, Nat.zero_le _⟩) ?_
  exact W.zret (v := fX7_isIn σ p1 0 99) hx hb hr (nb_of (b_X7_isIn σ p1 0 99)) (fun t ht hW => ⟨_, rfl, rfl, ht⟩) (fun _ h => absurd h List.not_mem_nil) dX7_isCode_7

set_option maxHeartbeats 4000000 in
set_option maxRecDepth 100000 in
theorem c_X7_isMark (l : Launch) (dC : Nat → ClassId) (dI : Nat → Nat → Nat) (cI cJ : ClassId) (q : Nat → Nat) (σ : St) (p1 : Int32) : Met l yX7_isMark (.code yX7_isMark cX7_isMark 1 (some .boolean) :: tb) { frames := 1, cells := 0, slots := 0, locals := 22 } (Pu (dC, dI) (tyC cI cJ) (wM cI cJ q σ) [.int p1]) (vp_Si (fun r => r = fX7_isIn σ p1 0 3)) 0 0 (fun _ => False) := by
  refine Met.ofW (cc := cX7_isMark) (maxL := 1) (ret := (some .boolean)) (by decide) rfl ?_
  intro p e s m args below meth c s₁ B hml hv
  obtain ⟨rfl, hP, hK⟩ := hv
  have hx := B.exec
  have hb := B.bytes
  have hr := B.returns
  have hts0 := atoms_spec (ws := .code yX7_isMark cX7_isMark 1 (some .boolean) :: tb) B.pre
  have hts : ∀ w ∈ tb, w.before _ s = true := fun w hw => hts0 w (List.mem_cons_of_mem _ hw)
  have hown : s.vm.findClass RX7 = some m.cls := findClass_of_methodNamed B.named
  have hlocks := B.notSynchronized
  have hl := lv_entry ([.int p1]) (n := 1) (Nat.le_of_ble_eq_true rfl)
  rw [lg_entry_eq]
  generalize (lg_sl ([.int p1]) ++ List.replicate (1 - (lg_sl ([.int p1])).length) Slot.unset).toArray = ls at hl ⊢
  have hl : lv_has ls 1 [(0, .int p1)] := hl
  refine lv_iload_n hx hb dX7_isMark_0 rfl (lv_at hl 0 rfl) ?_
  refine lv_iconst (v := 0) hx hb dX7_isMark_1 (by decide) ?_
  refine lv_iconst (v := 3) hx hb dX7_isMark_2 (by decide) ?_
  refine xc_i (va_runS (As := [.int p1, .int 0, .int 3]) (rest := []) ⟨hx, hb, hml, hown, hts⟩ (c_X7_isIn l dC dI cI cJ q σ p1 0 3) (va_cwS 3 hts (gS ml_X7_73 st_X7_isIn in_X7 co_X7_isIn) rfl rfl rfl (by decide +kernel) ⟨Nat.le_of_ble_eq_true rfl, Nat.le_of_ble_eq_true rfl⟩) (preS hK hP) rfl rfl hl.1 rfl (lv_room (Nat.le_of_ble_eq_true rfl)) dX7_isMark_3 ⟨Nat.zero_le _, Nat.zero_le _⟩) ?_
  exact W.zret (v := fX7_isIn σ p1 0 3) hx hb hr (nb_of (b_X7_isIn σ p1 0 3)) (fun t ht hW => ⟨_, rfl, rfl, ht⟩) (fun _ h => absurd h List.not_mem_nil) dX7_isMark_6

def fX7_one (σ : St) (p1 : Int32) : Int32 :=
  (if p1 = 0 then 0 else 1)
set_option maxHeartbeats 4000000 in
set_option maxRecDepth 100000 in
theorem c_X7_one (l : Launch) (dC : Nat → ClassId) (dI : Nat → Nat → Nat) (cI cJ : ClassId) (q : Nat → Nat) (σ : St) (p1 : Int32) : Met l yX7_one (.code yX7_one cX7_one 1 (some .int) :: tb) { frames := 0, cells := 0, slots := 0, locals := 0 } (Pu (dC, dI) (tyC cI cJ) (wM cI cJ q σ) [.int p1]) (vp_Si (fun r => r = fX7_one σ p1)) 0 0 (fun _ => False) := by
  refine Met.ofW (cc := cX7_one) (maxL := 1) (ret := (some .int)) (by decide) rfl ?_
  intro p e s m args below meth c s₁ B hml hv
  obtain ⟨rfl, hP, hK⟩ := hv
  have hx := B.exec
  have hb := B.bytes
  have hr := B.returns
  have hts0 := atoms_spec (ws := .code yX7_one cX7_one 1 (some .int) :: tb) B.pre
  have hts : ∀ w ∈ tb, w.before _ s = true := fun w hw => hts0 w (List.mem_cons_of_mem _ hw)
  have hown : s.vm.findClass RX7 = some m.cls := findClass_of_methodNamed B.named
  have hlocks := B.notSynchronized
  have hl := lv_entry ([.int p1]) (n := 1) (Nat.le_of_ble_eq_true rfl)
  rw [lg_entry_eq]
  generalize (lg_sl ([.int p1]) ++ List.replicate (1 - (lg_sl ([.int p1])).length) Slot.unset).toArray = ls at hl ⊢
  have hl : lv_has ls 1 [(0, .int p1)] := hl
  refine lv_iload_n hx hb dX7_one_0 rfl (lv_at hl 0 rfl) ?_
  refine lv_if_eq (tgt := 8) hx hb dX7_one_1 (by decide) (fun c_1 => ?_) (fun c_1 => ?_)
  · refine lv_iconst (v := 0) hx hb dX7_one_8 (by decide) ?_
    exact W.iret (v := 0) hx hb hr (fun t ht hW => ⟨_, rfl, (by rw [fX7_one, if_pos c_1]), ht⟩) (fun _ h => absurd h List.not_mem_nil) dX7_one_9
  · refine lv_iconst (v := 1) hx hb dX7_one_4 (by decide) ?_
    refine lv_goto (tgt := 9) hx hb dX7_one_5 (by decide) ?_
    exact W.iret (v := 1) hx hb hr (fun t ht hW => ⟨_, rfl, (by rw [fX7_one, if_neg c_1]), ht⟩) (fun _ h => absurd h List.not_mem_nil) dX7_one_9

set_option maxHeartbeats 4000000 in
set_option maxRecDepth 100000 in
theorem c_X7_isThing (l : Launch) (dC : Nat → ClassId) (dI : Nat → Nat → Nat) (cI cJ : ClassId) (q : Nat → Nat) (σ : St) (p1 : Int32) : Met l yX7_isThing (.code yX7_isThing cX7_isThing 2 (some .boolean) :: tb) { frames := 1, cells := 0, slots := 0, locals := 22 } (Pu (dC, dI) (tyC cI cJ) (wM cI cJ q σ) [.ref (q 0), .int p1]) (vp_Si (fun r => r = fX7_isIn σ p1 0 ((σ.2.1 1) - 1))) 0 0 (fun _ => False) := by
  refine Met.ofW (cc := cX7_isThing) (maxL := 2) (ret := (some .boolean)) (by decide) rfl ?_
  intro p e s m args below meth c s₁ B hml hv
  obtain ⟨rfl, hP, hK⟩ := hv
  have hx := B.exec
  have hb := B.bytes
  have hr := B.returns
  have hts0 := atoms_spec (ws := .code yX7_isThing cX7_isThing 2 (some .boolean) :: tb) B.pre
  have hts : ∀ w ∈ tb, w.before _ s = true := fun w hw => hts0 w (List.mem_cons_of_mem _ hw)
  have hown : s.vm.findClass RX7 = some m.cls := findClass_of_methodNamed B.named
  have hlocks := B.notSynchronized
  have hl := lv_entry ([.ref (q 0), .int p1]) (n := 2) (Nat.le_of_ble_eq_true rfl)
  rw [lg_entry_eq]
  generalize (lg_sl ([.ref (q 0), .int p1]) ++ List.replicate (2 - (lg_sl ([.ref (q 0), .int p1])).length) Slot.unset).toArray = ls at hl ⊢
  have hl : lv_has ls 2 [(0, .ref (q 0)), (1, .int p1)] := hl
  refine lv_iload_n hx hb dX7_isThing_0 rfl (lv_at hl 1 rfl) ?_
  refine lv_iconst (v := 0) hx hb dX7_isThing_1 (by decide) ?_
  refine lv_aload_n hx hb dX7_isThing_2 rfl (lv_at hl 0 rfl) ?_
  refine va_get (D := (dC, dI)) (ci := 7) (v := .int (σ.2.1 1)) (C := RX7) (T := TX7) (N := 26) hx hb hts inX7 hown hK hP 0 rfl rfl 1 (by decide) (hts _ fl_X7_77) (fun _ h9 => h9) rfl dX7_isThing_3 ?_
  refine lv_iconst (v := 1) hx hb dX7_isThing_6 (by decide) ?_
  refine lv_isub hx hb dX7_isThing_7 ?_
  refine xc_i (va_runS (As := [.int p1, .int 0, .int ((σ.2.1 1) - 1)]) (rest := []) ⟨hx, hb, hml, hown, hts⟩ (c_X7_isIn l dC dI cI cJ q σ p1 0 ((σ.2.1 1) - 1)) (va_cwS 3 hts (gS ml_X7_73 st_X7_isIn in_X7 co_X7_isIn) rfl rfl rfl (by decide +kernel) ⟨Nat.le_of_ble_eq_true rfl, Nat.le_of_ble_eq_true rfl⟩) (preS hK hP) rfl rfl hl.1 rfl (lv_room (Nat.le_of_ble_eq_true rfl)) dX7_isThing_8 ⟨Nat.zero_le _, Nat.zero_le _⟩) ?_
  exact W.zret (v := fX7_isIn σ p1 0 ((σ.2.1 1) - 1)) hx hb hr (nb_of (b_X7_isIn σ p1 0 (σ.2.1 1 - 1))) (fun t ht hW => ⟨_, rfl, rfl, ht⟩) (fun _ h => absurd h List.not_mem_nil) dX7_isThing_11

def fX7_day (σ : St) (p1 : Int32) : Int32 × St :=
  (if p1 ≤ (σ.2.1 0) then (0, σ) else (if p1 ≤ 2000 then (1, (sV σ 0 p1)) else (0, σ)))
set_option maxHeartbeats 4000000 in
set_option maxRecDepth 100000 in
theorem c_X7_day (l : Launch) (dC : Nat → ClassId) (dI : Nat → Nat → Nat) (cI cJ : ClassId) (q : Nat → Nat) (σ : St) (p1 : Int32) (hd : dT 22 q) : Met l yX7_day (.code yX7_day cX7_day 2 (some .boolean) :: tb) { frames := 0, cells := 0, slots := 0, locals := 0 } (Pu (dC, dI) (tyC cI cJ) (wM cI cJ q σ) [.ref (q 0), .int p1]) (xw_Q (some (.int (fX7_day σ p1).1)) (dC, dI) (wM cI cJ q (fX7_day σ p1).2) (aT 22 q)) 0 0 (aT 22 q) := by
  refine Met.ofW (cc := cX7_day) (maxL := 2) (ret := (some .boolean)) (by decide) rfl ?_
  intro p e s m args below meth c s₁ B hml hv
  obtain ⟨rfl, hP, hK⟩ := hv
  have hx := B.exec
  have hb := B.bytes
  have hr := B.returns
  have hts0 := atoms_spec (ws := .code yX7_day cX7_day 2 (some .boolean) :: tb) B.pre
  have hts : ∀ w ∈ tb, w.before _ s = true := fun w hw => hts0 w (List.mem_cons_of_mem _ hw)
  have hown : s.vm.findClass RX7 = some m.cls := findClass_of_methodNamed B.named
  have hlocks := B.notSynchronized
  have hl := lv_entry ([.ref (q 0), .int p1]) (n := 2) (Nat.le_of_ble_eq_true rfl)
  rw [lg_entry_eq]
  generalize (lg_sl ([.ref (q 0), .int p1]) ++ List.replicate (2 - (lg_sl ([.ref (q 0), .int p1])).length) Slot.unset).toArray = ls at hl ⊢
  have hl : lv_has ls 2 [(0, .ref (q 0)), (1, .int p1)] := hl
  obtain ⟨H, hHe⟩ : ∃ H, s.heap = H := ⟨_, rfl⟩
  rw [hHe] at hP ⊢
  obtain ⟨locs, hLe⟩ : ∃ x : List Loc, ([] : List Loc) = x := ⟨_, rfl⟩
  rw [hLe]
  have hS : va_S (aT 22 q) s.heap H locs := by rw [← hHe, ← hLe]; exact va_S.rf
  refine lv_iload_n hx hb dX7_day_0 rfl (lv_at hl 1 rfl) ?_
  refine lv_aload_n hx hb dX7_day_1 rfl (lv_at hl 0 rfl) ?_
  refine va_get (D := (dC, dI)) (ci := 7) (v := .int (σ.2.1 0)) (C := RX7) (T := TX7) (N := 26) hx hb hts inX7 hown hK hP 0 rfl rfl 0 (by decide) (hts _ fl_X7_81) (fun _ h9 => h9) rfl dX7_day_2 ?_
  refine lv_icmp_le (tgt := 15) hx hb dX7_day_5 (by decide) (fun c_5 => ?_) (fun c_5 => ?_)
  · refine lv_iconst (v := 0) hx hb dX7_day_15 (by decide) ?_
    have hF : fX7_day σ p1 = (0, σ) := by rw [fX7_day, if_pos c_5]
    have hP9 : va_P (dC, dI) vwCl (wM cI cJ q (fX7_day σ p1).2) H := by rw [hF]; exact hP
    exact W.zret (v := 0) hx hb hr narrow_b0 (fun t ht hW => ⟨(by rw [hF]), by rw [ht]; exact hP9, hS.F ht⟩) hS.2.2 dX7_day_16
  · refine lv_iload_n hx hb dX7_day_8 rfl (lv_at hl 1 rfl) ?_
    refine lv_sipush (v := 2000) hx hb dX7_day_9 (by decide) ?_
    refine lv_icmp_le (tgt := 17) hx hb dX7_day_12 (by decide) (fun c_12 => ?_) (fun c_12 => ?_)
    · refine lv_aload_n hx hb dX7_day_17 rfl (lv_at hl 0 rfl) ?_
      refine lv_iload_n hx hb dX7_day_18 rfl (lv_at hl 1 rfl) ?_
      refine va_put (D := (dC, dI)) (ci := 7) (v := .int p1) (ty := .int) (C := RX7) (T := TX7) (N := 26) hx hb hts inX7 tyX7 tyX7_ok nmX7 hown hK hP (wM_D hd) hS 0 rfl rfl 0 (by decide) (hts _ fl_X7_81) (fun _ h9 => h9) rfl (by decide +kernel) rfl rfl (Nat.le_of_ble_eq_true rfl) dX7_day_19 (fun H locs hP _ hS => ?_)
      have hP : va_P (dC, dI) vwCl (wM cI cJ q (sV σ 0 p1)) H := hP
      refine lv_iconst (v := 1) hx hb dX7_day_22 (by decide) ?_
      have hF : fX7_day σ p1 = (1, (sV σ 0 p1)) := by rw [fX7_day, if_neg c_5, if_pos c_12]
      have hP9 : va_P (dC, dI) vwCl (wM cI cJ q (fX7_day σ p1).2) H := by rw [hF]; exact hP
      exact W.zret (v := 1) hx hb hr narrow_b1 (fun t ht hW => ⟨(by rw [hF]), by rw [ht]; exact hP9, hS.F ht⟩) hS.2.2 dX7_day_23
    · refine lv_iconst (v := 0) hx hb dX7_day_15 (by decide) ?_
      have hF : fX7_day σ p1 = (0, σ) := by rw [fX7_day, if_neg c_5, if_neg c_12]
      have hP9 : va_P (dC, dI) vwCl (wM cI cJ q (fX7_day σ p1).2) H := by rw [hF]; exact hP
      exact W.zret (v := 0) hx hb hr narrow_b0 (fun t ht hW => ⟨(by rw [hF]), by rw [ht]; exact hP9, hS.F ht⟩) hS.2.2 dX7_day_16

def fX7_endBy (σ : St) (p1 : Int32) (p2 : Int32) : Int32 :=
  (if p2 < (σ.1 4 p1.toNatClampNeg) then 2001 else σ.1 3 p1.toNatClampNeg)
set_option maxHeartbeats 4000000 in
set_option maxRecDepth 100000 in
theorem c_X7_endBy (l : Launch) (dC : Nat → ClassId) (dI : Nat → Nat → Nat) (cI cJ : ClassId) (q : Nat → Nat) (σ : St) (p1 : Int32) (p2 : Int32) (hT : vp_in p1 40) : Met l yX7_endBy (.code yX7_endBy cX7_endBy 3 (some .int) :: tb) { frames := 0, cells := 0, slots := 0, locals := 0 } (Pu (dC, dI) (tyC cI cJ) (wM cI cJ q σ) [.ref (q 0), .int p1, .int p2]) (vp_Si (fun r => r = fX7_endBy σ p1 p2)) 0 0 (fun _ => False) := by
  refine Met.ofW (cc := cX7_endBy) (maxL := 3) (ret := (some .int)) (by decide) rfl ?_
  intro p e s m args below meth c s₁ B hml hv
  obtain ⟨rfl, hP, hK⟩ := hv
  have hx := B.exec
  have hb := B.bytes
  have hr := B.returns
  have hts0 := atoms_spec (ws := .code yX7_endBy cX7_endBy 3 (some .int) :: tb) B.pre
  have hts : ∀ w ∈ tb, w.before _ s = true := fun w hw => hts0 w (List.mem_cons_of_mem _ hw)
  have hown : s.vm.findClass RX7 = some m.cls := findClass_of_methodNamed B.named
  have hlocks := B.notSynchronized
  have hl := lv_entry ([.ref (q 0), .int p1, .int p2]) (n := 3) (Nat.le_of_ble_eq_true rfl)
  rw [lg_entry_eq]
  generalize (lg_sl ([.ref (q 0), .int p1, .int p2]) ++ List.replicate (3 - (lg_sl ([.ref (q 0), .int p1, .int p2])).length) Slot.unset).toArray = ls at hl ⊢
  have hl : lv_has ls 3 [(0, .ref (q 0)), (1, .int p1), (2, .int p2)] := hl
  refine lv_aload_n hx hb dX7_endBy_0 rfl (lv_at hl 0 rfl) ?_
  refine va_get (D := (dC, dI)) (ci := 7) (v := .ref (q 5)) (C := RX7) (T := TX7) (N := 26) hx hb hts inX7 hown hK hP 0 rfl rfl 9 (by decide) (hts _ fl_X7_22) (fun _ h9 => h9) rfl dX7_endBy_1 ?_
  refine lv_iload_n hx hb dX7_endBy_4 rfl (lv_at hl 1 rfl) ?_
  refine va_iald hx hb hK hP 5 0 rfl rfl (by assumption) dX7_endBy_5 ?_
  refine lv_iload_n hx hb dX7_endBy_6 rfl (lv_at hl 2 rfl) ?_
  refine lv_icmp_gt (tgt := 19) hx hb dX7_endBy_7 (by decide) (fun c_7 => ?_) (fun c_7 => ?_)
  · refine lv_sipush (v := 2001) hx hb dX7_endBy_19 (by decide) ?_
    exact W.iret (v := 2001) hx hb hr (fun t ht hW => ⟨_, rfl, (by rw [fX7_endBy, if_pos c_7]), ht⟩) (fun _ h => absurd h List.not_mem_nil) dX7_endBy_22
  · refine lv_aload_n hx hb dX7_endBy_10 rfl (lv_at hl 0 rfl) ?_
    refine va_get (D := (dC, dI)) (ci := 7) (v := .ref (q 4)) (C := RX7) (T := TX7) (N := 26) hx hb hts inX7 hown hK hP 0 rfl rfl 8 (by decide) (hts _ fl_X7_19) (fun _ h9 => h9) rfl dX7_endBy_11 ?_
    refine lv_iload_n hx hb dX7_endBy_14 rfl (lv_at hl 1 rfl) ?_
    refine va_iald hx hb hK hP 4 0 rfl rfl (by assumption) dX7_endBy_15 ?_
    refine lv_goto (tgt := 22) hx hb dX7_endBy_16 (by decide) ?_
    exact W.iret (v := σ.1 3 p1.toNatClampNeg) hx hb hr (fun t ht hW => ⟨_, rfl, (by rw [fX7_endBy, if_neg c_7]), ht⟩) (fun _ h => absurd h List.not_mem_nil) dX7_endBy_22

def fX7_lives (σ : St) (p1 : Int32) (p2 : Int32) (p3 : Int32) : Int32 :=
  (if p3 < (σ.1 2 p1.toNatClampNeg) then 0 else (if p2 < (σ.1 1 p1.toNatClampNeg) then 0 else (if (fX7_endBy σ p1 p3) ≤ p2 then 0 else 1)))
set_option maxHeartbeats 4000000 in
set_option maxRecDepth 100000 in
theorem c_X7_lives (l : Launch) (dC : Nat → ClassId) (dI : Nat → Nat → Nat) (cI cJ : ClassId) (q : Nat → Nat) (σ : St) (p1 : Int32) (p2 : Int32) (p3 : Int32) (hT : vp_in p1 40) : Met l yX7_lives (.code yX7_lives cX7_lives 4 (some .boolean) :: tb) { frames := 1, cells := 0, slots := 0, locals := 22 } (Pu (dC, dI) (tyC cI cJ) (wM cI cJ q σ) [.ref (q 0), .int p1, .int p2, .int p3]) (vp_Si (fun r => r = fX7_lives σ p1 p2 p3)) 0 0 (fun _ => False) := by
  refine Met.ofW (cc := cX7_lives) (maxL := 4) (ret := (some .boolean)) (by decide) rfl ?_
  intro p e s m args below meth c s₁ B hml hv
  obtain ⟨rfl, hP, hK⟩ := hv
  have hx := B.exec
  have hb := B.bytes
  have hr := B.returns
  have hts0 := atoms_spec (ws := .code yX7_lives cX7_lives 4 (some .boolean) :: tb) B.pre
  have hts : ∀ w ∈ tb, w.before _ s = true := fun w hw => hts0 w (List.mem_cons_of_mem _ hw)
  have hown : s.vm.findClass RX7 = some m.cls := findClass_of_methodNamed B.named
  have hlocks := B.notSynchronized
  have hl := lv_entry ([.ref (q 0), .int p1, .int p2, .int p3]) (n := 4) (Nat.le_of_ble_eq_true rfl)
  rw [lg_entry_eq]
  generalize (lg_sl ([.ref (q 0), .int p1, .int p2, .int p3]) ++ List.replicate (4 - (lg_sl ([.ref (q 0), .int p1, .int p2, .int p3])).length) Slot.unset).toArray = ls at hl ⊢
  have hl : lv_has ls 4 [(0, .ref (q 0)), (1, .int p1), (2, .int p2), (3, .int p3)] := hl
  refine lv_aload_n hx hb dX7_lives_0 rfl (lv_at hl 0 rfl) ?_
  refine va_get (D := (dC, dI)) (ci := 7) (v := .ref (q 3)) (C := RX7) (T := TX7) (N := 26) hx hb hts inX7 hown hK hP 0 rfl rfl 7 (by decide) (hts _ fl_X7_16) (fun _ h9 => h9) rfl dX7_lives_1 ?_
  refine lv_iload_n hx hb dX7_lives_4 rfl (lv_at hl 1 rfl) ?_
  refine va_iald hx hb hK hP 3 0 rfl rfl (by assumption) dX7_lives_5 ?_
  refine lv_iload_n hx hb dX7_lives_6 rfl (lv_at hl 3 rfl) ?_
  refine lv_icmp_gt (tgt := 34) hx hb dX7_lives_7 (by decide) (fun c_7 => ?_) (fun c_7 => ?_)
  · refine lv_iconst (v := 0) hx hb dX7_lives_34 (by decide) ?_
    exact W.zret (v := 0) hx hb hr narrow_b0 (fun t ht hW => ⟨_, rfl, (by rw [fX7_lives, if_pos c_7]), ht⟩) (fun _ h => absurd h List.not_mem_nil) dX7_lives_35
  · refine lv_aload_n hx hb dX7_lives_10 rfl (lv_at hl 0 rfl) ?_
    refine va_get (D := (dC, dI)) (ci := 7) (v := .ref (q 2)) (C := RX7) (T := TX7) (N := 26) hx hb hts inX7 hown hK hP 0 rfl rfl 6 (by decide) (hts _ fl_X7_13) (fun _ h9 => h9) rfl dX7_lives_11 ?_
    refine lv_iload_n hx hb dX7_lives_14 rfl (lv_at hl 1 rfl) ?_
    refine va_iald hx hb hK hP 2 0 rfl rfl (by assumption) dX7_lives_15 ?_
    refine lv_iload_n hx hb dX7_lives_16 rfl (lv_at hl 2 rfl) ?_
    refine lv_icmp_gt (tgt := 34) hx hb dX7_lives_17 (by decide) (fun c_17 => ?_) (fun c_17 => ?_)
    · refine lv_iconst (v := 0) hx hb dX7_lives_34 (by decide) ?_
      exact W.zret (v := 0) hx hb hr narrow_b0 (fun t ht hW => ⟨_, rfl, (by rw [fX7_lives, if_neg c_7, if_pos c_17]), ht⟩) (fun _ h => absurd h List.not_mem_nil) dX7_lives_35
    · refine lv_iload_n hx hb dX7_lives_20 rfl (lv_at hl 2 rfl) ?_
      refine lv_aload_n hx hb dX7_lives_21 rfl (lv_at hl 0 rfl) ?_
      refine lv_iload_n hx hb dX7_lives_22 rfl (lv_at hl 1 rfl) ?_
      refine lv_iload_n hx hb dX7_lives_23 rfl (lv_at hl 3 rfl) ?_
      refine xc_i (va_runV (As := [.int p1, .int p3]) (rest := [.int p2]) ⟨hx, hb, hml, hown, hts⟩ (c_X7_endBy l dC dI cI cJ q σ p1 p3 (by assumption)) (cwV 2 hts (gV ml_X7_84 im_X7_endBy se_X7_endBy in_X7 co_X7_endBy) rfl rfl rfl (by decide +kernel) ⟨Nat.le_of_ble_eq_true rfl, Nat.le_of_ble_eq_true rfl⟩) (preV hK hP (pos := 0) (ci := 7) rfl rfl) rfl rfl hl.1 rfl (lv_room (Nat.le_of_ble_eq_true rfl)) dX7_lives_24 ⟨Nat.zero_le _, Nat.zero_le _⟩) ?_
      refine lv_icmp_ge (tgt := 34) hx hb dX7_lives_27 (by decide) (fun c_27 => ?_) (fun c_27 => ?_)
      · refine lv_iconst (v := 0) hx hb dX7_lives_34 (by decide) ?_
        exact W.zret (v := 0) hx hb hr narrow_b0 (fun t ht hW => ⟨_, rfl, (by rw [fX7_lives, if_neg c_7, if_neg c_17, if_pos c_27]), ht⟩) (fun _ h => absurd h List.not_mem_nil) dX7_lives_35
      · refine lv_iconst (v := 1) hx hb dX7_lives_30 (by decide) ?_
        refine lv_goto (tgt := 35) hx hb dX7_lives_31 (by decide) ?_
        exact W.zret (v := 1) hx hb hr narrow_b1 (fun t ht hW => ⟨_, rfl, (by rw [fX7_lives, if_neg c_7, if_neg c_17, if_neg c_27]), ht⟩) (fun _ h => absurd h List.not_mem_nil) dX7_lives_35

def flX7_isTaken_6 (σ : St) (p1 : Int32) (p2 : Int32) (p3 : Int32) (p4 : Int32) : Nat → Nat → Int32 → Int32
  | 0, i, bb => bb
  | k + 1, i, bb => (if bb = 0 then (if (σ.1 0 i) = p1 then (if p2 < (σ.1 1 i) then flX7_isTaken_6 σ p1 p2 p3 p4 k (i + 1) 1 else (if (nI i) = p3 then flX7_isTaken_6 σ p1 p2 p3 p4 k (i + 1) 0 else (if (nI i) = p4 then flX7_isTaken_6 σ p1 p2 p3 p4 k (i + 1) 0 else (if (fX7_lives σ (nI i) p2 (σ.2.1 0)) = 0 then flX7_isTaken_6 σ p1 p2 p3 p4 k (i + 1) 0 else flX7_isTaken_6 σ p1 p2 p3 p4 k (i + 1) 1)))) else flX7_isTaken_6 σ p1 p2 p3 p4 k (i + 1) 0) else flX7_isTaken_6 σ p1 p2 p3 p4 k (i + 1) 1)
def fX7_isTaken (σ : St) (p1 : Int32) (p2 : Int32) (p3 : Int32) (p4 : Int32) : Int32 :=
  flX7_isTaken_6 σ p1 p2 p3 p4 ((σ.2.1 1).toNatClampNeg) 0 0
set_option maxHeartbeats 4000000 in
set_option maxRecDepth 100000 in
theorem c_X7_isTaken (l : Launch) (dC : Nat → ClassId) (dI : Nat → Nat → Nat) (cI cJ : ClassId) (q : Nat → Nat) (σ : St) (p1 : Int32) (p2 : Int32) (p3 : Int32) (p4 : Int32) (hI : IB σ) : Met l yX7_isTaken (.code yX7_isTaken cX7_isTaken 7 (some .boolean) :: tb) { frames := 2, cells := 0, slots := 0, locals := 45 } (Pu (dC, dI) (tyC cI cJ) (wM cI cJ q σ) [.ref (q 0), .int p1, .int p2, .int p3, .int p4]) (vp_Si (fun r => r = fX7_isTaken σ p1 p2 p3 p4)) 0 0 (fun _ => False) := by
  refine Met.ofW (cc := cX7_isTaken) (maxL := 7) (ret := (some .boolean)) (by decide) rfl ?_
  intro p e s m args below meth c s₁ B hml hv
  obtain ⟨rfl, hP, hK⟩ := hv
  have hx := B.exec
  have hb := B.bytes
  have hr := B.returns
  have hts0 := atoms_spec (ws := .code yX7_isTaken cX7_isTaken 7 (some .boolean) :: tb) B.pre
  have hts : ∀ w ∈ tb, w.before _ s = true := fun w hw => hts0 w (List.mem_cons_of_mem _ hw)
  have hown : s.vm.findClass RX7 = some m.cls := findClass_of_methodNamed B.named
  have hlocks := B.notSynchronized
  have hl := lv_entry ([.ref (q 0), .int p1, .int p2, .int p3, .int p4]) (n := 7) (Nat.le_of_ble_eq_true rfl)
  rw [lg_entry_eq]
  generalize (lg_sl ([.ref (q 0), .int p1, .int p2, .int p3, .int p4]) ++ List.replicate (7 - (lg_sl ([.ref (q 0), .int p1, .int p2, .int p3, .int p4])).length) Slot.unset).toArray = ls at hl ⊢
  have hl : lv_has ls 7 [(0, .ref (q 0)), (1, .int p1), (2, .int p2), (3, .int p3), (4, .int p4)] := hl
  refine lv_iconst (v := 0) hx hb dX7_isTaken_0 (by decide) ?_
  refine lv_istore (lv' := [(5, .int 0), (0, .ref (q 0)), (1, .int p1), (2, .int p2), (3, .int p3), (4, .int p4)]) hx hb dX7_isTaken_1 hl (by decide) rfl (fun ls hl => ?_)
  refine lv_iconst (v := 0) hx hb dX7_isTaken_3 (by decide) ?_
  refine lv_istore (lv' := [(6, .int 0), (5, .int 0), (0, .ref (q 0)), (1, .int p1), (2, .int p2), (3, .int p3), (4, .int p4)]) hx hb dX7_isTaken_4 hl (by decide) rfl (fun ls hl => ?_)
  have hz : szI (σ.2.1 1) 40 := hI.1
  have hz2 := hz.2
  have loop_6 : ∀ (k i : Nat) (bb : Int32), i + k = (σ.2.1 1).toNatClampNeg → (bb = 0 ∨ bb = 1) → fX7_isTaken σ p1 p2 p3 p4 = flX7_isTaken_6 σ p1 p2 p3 p4 k i bb → ∀ (ls : Array Slot), lv_has ls 7 [(0, .ref (q 0)), (1, .int p1), (2, .int p2), (3, .int p3), (4, .int p4), (6, .int (nI i)), (5, .int bb)] → W p l e (headSpec (.code yX7_isTaken cX7_isTaken 7 (some .boolean) :: tb) { frames := 2, cells := 0, slots := 0, locals := 45 }).room s m (List.toArray [.ref (q 0), .int p1, .int p2, .int p3, .int p4]) below meth c s.heap [] 0 0 (MQ below (vp_Si (fun r => r = fX7_isTaken σ p1 p2 p3 p4)) (List.toArray [.ref (q 0), .int p1, .int p2, .int p3, .int p4]) s 0 0 (fun _ => False)) (F0 m 6 ls []) := by
    intro k
    induction k with
    | zero =>
      intro i bb hik hv hE ls hl
      refine lv_iload hx hb dX7_isTaken_6 (lv_at hl 5 rfl) ?_
      refine lv_aload_n hx hb dX7_isTaken_8 rfl (lv_at hl 0 rfl) ?_
      refine va_get (D := (dC, dI)) (ci := 7) (v := .int (σ.2.1 1)) (C := RX7) (T := TX7) (N := 26) hx hb hts inX7 hown hK hP 0 rfl rfl 1 (by decide) (hts _ fl_X7_77) (fun _ h9 => h9) rfl dX7_isTaken_9 ?_
      refine lv_icmp_ge (tgt := 82) hx hb dX7_isTaken_12 (by decide) (fun c_12 => ?_) (fun c_12 => ?_)
      · refine lv_iload hx hb dX7_isTaken_82 (lv_at hl 6 rfl) ?_
        exact W.zret (v := bb) hx hb hr (nb_of hv) (fun t ht hW => ⟨_, rfl, (by rw [hE, flX7_isTaken_6]), ht⟩) (fun _ h => absurd h List.not_mem_nil) dX7_isTaken_84
      · exact absurd (by rw [hz.1]; exact nI_le (by omega) (by omega)) c_12
    | succ k ih =>
      intro i bb hik hv hE ls hl
      refine lv_iload hx hb dX7_isTaken_6 (lv_at hl 5 rfl) ?_
      refine lv_aload_n hx hb dX7_isTaken_8 rfl (lv_at hl 0 rfl) ?_
      refine va_get (D := (dC, dI)) (ci := 7) (v := .int (σ.2.1 1)) (C := RX7) (T := TX7) (N := 26) hx hb hts inX7 hown hK hP 0 rfl rfl 1 (by decide) (hts _ fl_X7_77) (fun _ h9 => h9) rfl dX7_isTaken_9 ?_
      refine lv_icmp_ge (tgt := 82) hx hb dX7_isTaken_12 (by decide) (fun c_12 => ?_) (fun c_12 => ?_)
      · exact absurd c_12 (by rw [hz.1]; exact nI_ge (by omega) (by omega))
      · refine lv_iload hx hb dX7_isTaken_15 (lv_at hl 6 rfl) ?_
        refine lv_if_ne (tgt := 69) hx hb dX7_isTaken_17 (by decide) (fun c_17 => ?_) (fun c_17 => ?_)
        · refine lv_iconst (v := 1) hx hb dX7_isTaken_69 (by decide) ?_
          refine lv_goto (tgt := 74) hx hb dX7_isTaken_70 (by decide) ?_
          refine lv_istore (lv' := [(5, .int 1), (0, .ref (q 0)), (1, .int p1), (2, .int p2), (3, .int p3), (4, .int p4), (6, .int (nI i))]) hx hb dX7_isTaken_74 hl (by decide) rfl (fun ls hl => ?_)
          refine lv_iinc (v := nI (i + 1)) (lv' := [(6, .int (nI (i + 1))), (5, .int 1), (0, .ref (q 0)), (1, .int p1), (2, .int p2), (3, .int p3), (4, .int p4)]) hx hb dX7_isTaken_76 hl (k := 6) rfl (nI_1 i) (by decide) rfl (fun ls hl => ?_)
          refine lv_goto (tgt := 6) hx hb dX7_isTaken_79 (by decide) ?_
          exact ih (i + 1) 1 (by omega) (by first | exact Or.inl rfl | exact Or.inr rfl) (by rw [hE, flX7_isTaken_6, if_neg c_17]) ls (lv_sub hl [2, 3, 4, 5, 6, 0, 1] rfl)
        · refine lv_aload_n hx hb dX7_isTaken_20 rfl (lv_at hl 0 rfl) ?_
          refine va_get (D := (dC, dI)) (ci := 7) (v := .ref (q 1)) (C := RX7) (T := TX7) (N := 26) hx hb hts inX7 hown hK hP 0 rfl rfl 5 (by decide) (hts _ fl_X7_7) (fun _ h9 => h9) rfl dX7_isTaken_21 ?_
          refine lv_iload hx hb dX7_isTaken_24 (lv_at hl 5 rfl) ?_
          refine xa_ild hx hb hK hP 1 0 rfl rfl (by omega) (by decide) dX7_isTaken_26 ?_
          refine lv_iload_n hx hb dX7_isTaken_27 rfl (lv_at hl 1 rfl) ?_
          refine lv_icmp_ne (tgt := 73) hx hb dX7_isTaken_28 (by decide) (fun c_28 => ?_) (fun c_28 => ?_)
          · refine lv_iconst (v := 0) hx hb dX7_isTaken_73 (by decide) ?_
            refine lv_istore (lv' := [(5, .int 0), (0, .ref (q 0)), (1, .int p1), (2, .int p2), (3, .int p3), (4, .int p4), (6, .int (nI i))]) hx hb dX7_isTaken_74 hl (by decide) rfl (fun ls hl => ?_)
            refine lv_iinc (v := nI (i + 1)) (lv' := [(6, .int (nI (i + 1))), (5, .int 0), (0, .ref (q 0)), (1, .int p1), (2, .int p2), (3, .int p3), (4, .int p4)]) hx hb dX7_isTaken_76 hl (k := 6) rfl (nI_1 i) (by decide) rfl (fun ls hl => ?_)
            refine lv_goto (tgt := 6) hx hb dX7_isTaken_79 (by decide) ?_
            exact ih (i + 1) 0 (by omega) (by first | exact Or.inl rfl | exact Or.inr rfl) (by rw [hE, flX7_isTaken_6, if_pos c_17, if_neg c_28]) ls (lv_sub hl [2, 3, 4, 5, 6, 0, 1] rfl)
          · refine lv_aload_n hx hb dX7_isTaken_31 rfl (lv_at hl 0 rfl) ?_
            refine va_get (D := (dC, dI)) (ci := 7) (v := .ref (q 2)) (C := RX7) (T := TX7) (N := 26) hx hb hts inX7 hown hK hP 0 rfl rfl 6 (by decide) (hts _ fl_X7_13) (fun _ h9 => h9) rfl dX7_isTaken_32 ?_
            refine lv_iload hx hb dX7_isTaken_35 (lv_at hl 5 rfl) ?_
            refine xa_ild hx hb hK hP 2 0 rfl rfl (by omega) (by decide) dX7_isTaken_37 ?_
            refine lv_iload_n hx hb dX7_isTaken_38 rfl (lv_at hl 2 rfl) ?_
            refine lv_icmp_gt (tgt := 69) hx hb dX7_isTaken_39 (by decide) (fun c_39 => ?_) (fun c_39 => ?_)
            · refine lv_iconst (v := 1) hx hb dX7_isTaken_69 (by decide) ?_
              refine lv_goto (tgt := 74) hx hb dX7_isTaken_70 (by decide) ?_
              refine lv_istore (lv' := [(5, .int 1), (0, .ref (q 0)), (1, .int p1), (2, .int p2), (3, .int p3), (4, .int p4), (6, .int (nI i))]) hx hb dX7_isTaken_74 hl (by decide) rfl (fun ls hl => ?_)
              refine lv_iinc (v := nI (i + 1)) (lv' := [(6, .int (nI (i + 1))), (5, .int 1), (0, .ref (q 0)), (1, .int p1), (2, .int p2), (3, .int p3), (4, .int p4)]) hx hb dX7_isTaken_76 hl (k := 6) rfl (nI_1 i) (by decide) rfl (fun ls hl => ?_)
              refine lv_goto (tgt := 6) hx hb dX7_isTaken_79 (by decide) ?_
              exact ih (i + 1) 1 (by omega) (by first | exact Or.inl rfl | exact Or.inr rfl) (by rw [hE, flX7_isTaken_6, if_pos c_17, if_pos c_28, if_pos c_39]) ls (lv_sub hl [2, 3, 4, 5, 6, 0, 1] rfl)
            · refine lv_iload hx hb dX7_isTaken_42 (lv_at hl 5 rfl) ?_
              refine lv_iload_n hx hb dX7_isTaken_44 rfl (lv_at hl 3 rfl) ?_
              refine lv_icmp_eq (tgt := 73) hx hb dX7_isTaken_45 (by decide) (fun c_45 => ?_) (fun c_45 => ?_)
              · refine lv_iconst (v := 0) hx hb dX7_isTaken_73 (by decide) ?_
                refine lv_istore (lv' := [(5, .int 0), (0, .ref (q 0)), (1, .int p1), (2, .int p2), (3, .int p3), (4, .int p4), (6, .int (nI i))]) hx hb dX7_isTaken_74 hl (by decide) rfl (fun ls hl => ?_)
                refine lv_iinc (v := nI (i + 1)) (lv' := [(6, .int (nI (i + 1))), (5, .int 0), (0, .ref (q 0)), (1, .int p1), (2, .int p2), (3, .int p3), (4, .int p4)]) hx hb dX7_isTaken_76 hl (k := 6) rfl (nI_1 i) (by decide) rfl (fun ls hl => ?_)
                refine lv_goto (tgt := 6) hx hb dX7_isTaken_79 (by decide) ?_
                exact ih (i + 1) 0 (by omega) (by first | exact Or.inl rfl | exact Or.inr rfl) (by rw [hE, flX7_isTaken_6, if_pos c_17, if_pos c_28, if_neg c_39, if_pos c_45]) ls (lv_sub hl [2, 3, 4, 5, 6, 0, 1] rfl)
              · refine lv_iload hx hb dX7_isTaken_48 (lv_at hl 5 rfl) ?_
                refine lv_iload hx hb dX7_isTaken_50 (lv_at hl 4 rfl) ?_
                refine lv_icmp_eq (tgt := 73) hx hb dX7_isTaken_52 (by decide) (fun c_52 => ?_) (fun c_52 => ?_)
                · refine lv_iconst (v := 0) hx hb dX7_isTaken_73 (by decide) ?_
                  refine lv_istore (lv' := [(5, .int 0), (0, .ref (q 0)), (1, .int p1), (2, .int p2), (3, .int p3), (4, .int p4), (6, .int (nI i))]) hx hb dX7_isTaken_74 hl (by decide) rfl (fun ls hl => ?_)
                  refine lv_iinc (v := nI (i + 1)) (lv' := [(6, .int (nI (i + 1))), (5, .int 0), (0, .ref (q 0)), (1, .int p1), (2, .int p2), (3, .int p3), (4, .int p4)]) hx hb dX7_isTaken_76 hl (k := 6) rfl (nI_1 i) (by decide) rfl (fun ls hl => ?_)
                  refine lv_goto (tgt := 6) hx hb dX7_isTaken_79 (by decide) ?_
                  exact ih (i + 1) 0 (by omega) (by first | exact Or.inl rfl | exact Or.inr rfl) (by rw [hE, flX7_isTaken_6, if_pos c_17, if_pos c_28, if_neg c_39, if_neg c_45, if_pos c_52]) ls (lv_sub hl [2, 3, 4, 5, 6, 0, 1] rfl)
                · refine lv_aload_n hx hb dX7_isTaken_55 rfl (lv_at hl 0 rfl) ?_
                  refine lv_iload hx hb dX7_isTaken_56 (lv_at hl 5 rfl) ?_
                  refine lv_iload_n hx hb dX7_isTaken_58 rfl (lv_at hl 2 rfl) ?_
                  refine lv_aload_n hx hb dX7_isTaken_59 rfl (lv_at hl 0 rfl) ?_
                  refine va_get (D := (dC, dI)) (ci := 7) (v := .int (σ.2.1 0)) (C := RX7) (T := TX7) (N := 26) hx hb hts inX7 hown hK hP 0 rfl rfl 0 (by decide) (hts _ fl_X7_81) (fun _ h9 => h9) rfl dX7_isTaken_60 ?_
                  refine xc_i (va_runV (As := [.int (nI i), .int p2, .int (σ.2.1 0)]) (rest := []) ⟨hx, hb, hml, hown, hts⟩ (c_X7_lives l dC dI cI cJ q σ (nI i) p2 (σ.2.1 0) (vp_in_nI (by omega) (by decide))) (cwV 3 hts (gV ml_X7_88 im_X7_lives se_X7_lives in_X7 co_X7_lives) rfl rfl rfl (by decide +kernel) ⟨Nat.le_of_ble_eq_true rfl, Nat.le_of_ble_eq_true rfl⟩) (preV hK hP (pos := 0) (ci := 7) rfl rfl) rfl rfl hl.1 rfl (lv_room (Nat.le_of_ble_eq_true rfl)) dX7_isTaken_63 ⟨Nat.zero_le _, Nat.zero_le _⟩) ?_
                  refine lv_if_eq (tgt := 73) hx hb dX7_isTaken_66 (by decide) (fun c_66 => ?_) (fun c_66 => ?_)
                  · refine lv_iconst (v := 0) hx hb dX7_isTaken_73 (by decide) ?_
                    refine lv_istore (lv' := [(5, .int 0), (0, .ref (q 0)), (1, .int p1), (2, .int p2), (3, .int p3), (4, .int p4), (6, .int (nI i))]) hx hb dX7_isTaken_74 hl (by decide) rfl (fun ls hl => ?_)
                    refine lv_iinc (v := nI (i + 1)) (lv' := [(6, .int (nI (i + 1))), (5, .int 0), (0, .ref (q 0)), (1, .int p1), (2, .int p2), (3, .int p3), (4, .int p4)]) hx hb dX7_isTaken_76 hl (k := 6) rfl (nI_1 i) (by decide) rfl (fun ls hl => ?_)
                    refine lv_goto (tgt := 6) hx hb dX7_isTaken_79 (by decide) ?_
                    exact ih (i + 1) 0 (by omega) (by first | exact Or.inl rfl | exact Or.inr rfl) (by rw [hE, flX7_isTaken_6, if_pos c_17, if_pos c_28, if_neg c_39, if_neg c_45, if_neg c_52, if_pos c_66]) ls (lv_sub hl [2, 3, 4, 5, 6, 0, 1] rfl)
                  · refine lv_iconst (v := 1) hx hb dX7_isTaken_69 (by decide) ?_
                    refine lv_goto (tgt := 74) hx hb dX7_isTaken_70 (by decide) ?_
                    refine lv_istore (lv' := [(5, .int 1), (0, .ref (q 0)), (1, .int p1), (2, .int p2), (3, .int p3), (4, .int p4), (6, .int (nI i))]) hx hb dX7_isTaken_74 hl (by decide) rfl (fun ls hl => ?_)
                    refine lv_iinc (v := nI (i + 1)) (lv' := [(6, .int (nI (i + 1))), (5, .int 1), (0, .ref (q 0)), (1, .int p1), (2, .int p2), (3, .int p3), (4, .int p4)]) hx hb dX7_isTaken_76 hl (k := 6) rfl (nI_1 i) (by decide) rfl (fun ls hl => ?_)
                    refine lv_goto (tgt := 6) hx hb dX7_isTaken_79 (by decide) ?_
                    exact ih (i + 1) 1 (by omega) (by first | exact Or.inl rfl | exact Or.inr rfl) (by rw [hE, flX7_isTaken_6, if_pos c_17, if_pos c_28, if_neg c_39, if_neg c_45, if_neg c_52, if_neg c_66]) ls (lv_sub hl [2, 3, 4, 5, 6, 0, 1] rfl)
  exact loop_6 ((σ.2.1 1).toNatClampNeg) 0 0 (by rw [Nat.zero_add]) (Or.inl rfl) (by rw [fX7_isTaken]) ls (lv_sub hl [2, 3, 4, 5, 6, 0, 1] rfl)

def fX7_comes (σ : St) (p1 : Int32) (p2 : Int32) : Int32 × St :=
  (σ.2.1 1, (sI (sI (sI (sI (sI (sI (sV σ 1 ((σ.2.1 1) + 1)) 0 ((σ.2.1 1).toNatClampNeg) p1) 1 ((σ.2.1 1).toNatClampNeg) p2) 2 ((σ.2.1 1).toNatClampNeg) (σ.2.1 0)) 3 ((σ.2.1 1).toNatClampNeg) 2001) 4 ((σ.2.1 1).toNatClampNeg) 2001) 6 ((σ.2.1 1).toNatClampNeg) (-1)))
set_option maxHeartbeats 4000000 in
set_option maxRecDepth 100000 in
theorem c_X7_comes (l : Launch) (dC : Nat → ClassId) (dI : Nat → Nat → Nat) (cI cJ : ClassId) (q : Nat → Nat) (σ : St) (p1 : Int32) (p2 : Int32) (hd : dT 22 q) (hV : vp_in (σ.2.1 1) 40) : Met l yX7_comes (.code yX7_comes cX7_comes 4 (some .int) :: tb) { frames := 0, cells := 0, slots := 0, locals := 0 } (Pu (dC, dI) (tyC cI cJ) (wM cI cJ q σ) [.ref (q 0), .int p1, .int p2]) (xw_Q (some (.int (fX7_comes σ p1 p2).1)) (dC, dI) (wM cI cJ q (fX7_comes σ p1 p2).2) (aT 22 q)) 0 0 (aT 22 q) := by
  refine Met.ofW (cc := cX7_comes) (maxL := 4) (ret := (some .int)) (by decide) rfl ?_
  intro p e s m args below meth c s₁ B hml hv
  obtain ⟨rfl, hP, hK⟩ := hv
  have hx := B.exec
  have hb := B.bytes
  have hr := B.returns
  have hts0 := atoms_spec (ws := .code yX7_comes cX7_comes 4 (some .int) :: tb) B.pre
  have hts : ∀ w ∈ tb, w.before _ s = true := fun w hw => hts0 w (List.mem_cons_of_mem _ hw)
  have hown : s.vm.findClass RX7 = some m.cls := findClass_of_methodNamed B.named
  have hlocks := B.notSynchronized
  have hl := lv_entry ([.ref (q 0), .int p1, .int p2]) (n := 4) (Nat.le_of_ble_eq_true rfl)
  rw [lg_entry_eq]
  generalize (lg_sl ([.ref (q 0), .int p1, .int p2]) ++ List.replicate (4 - (lg_sl ([.ref (q 0), .int p1, .int p2])).length) Slot.unset).toArray = ls at hl ⊢
  have hl : lv_has ls 4 [(0, .ref (q 0)), (1, .int p1), (2, .int p2)] := hl
  obtain ⟨H, hHe⟩ : ∃ H, s.heap = H := ⟨_, rfl⟩
  rw [hHe] at hP ⊢
  obtain ⟨locs, hLe⟩ : ∃ x : List Loc, ([] : List Loc) = x := ⟨_, rfl⟩
  rw [hLe]
  have hS : va_S (aT 22 q) s.heap H locs := by rw [← hHe, ← hLe]; exact va_S.rf
  refine lv_aload_n hx hb dX7_comes_0 rfl (lv_at hl 0 rfl) ?_
  refine va_get (D := (dC, dI)) (ci := 7) (v := .int (σ.2.1 1)) (C := RX7) (T := TX7) (N := 26) hx hb hts inX7 hown hK hP 0 rfl rfl 1 (by decide) (hts _ fl_X7_77) (fun _ h9 => h9) rfl dX7_comes_1 ?_
  refine lv_istore_n (lv' := [(3, .int (σ.2.1 1)), (0, .ref (q 0)), (1, .int p1), (2, .int p2)]) hx hb dX7_comes_4 rfl hl (by decide) rfl (fun ls hl => ?_)
  refine lv_aload_n hx hb dX7_comes_5 rfl (lv_at hl 1 rfl) ?_
  refine lv_dup hx hb dX7_comes_6 rfl ?_
  refine va_get (D := (dC, dI)) (ci := 7) (v := .int (σ.2.1 1)) (C := RX7) (T := TX7) (N := 26) hx hb hts inX7 hown hK hP 0 rfl rfl 1 (by decide) (hts _ fl_X7_77) (fun _ h9 => h9) rfl dX7_comes_7 ?_
  refine lv_iconst (v := 1) hx hb dX7_comes_10 (by decide) ?_
  refine lv_iadd hx hb dX7_comes_11 ?_
  refine va_put (D := (dC, dI)) (ci := 7) (v := .int ((σ.2.1 1) + 1)) (ty := .int) (C := RX7) (T := TX7) (N := 26) hx hb hts inX7 tyX7 tyX7_ok nmX7 hown hK hP (wM_D hd) hS 0 rfl rfl 1 (by decide) (hts _ fl_X7_77) (fun _ h9 => h9) rfl (by decide +kernel) rfl rfl (Nat.le_of_ble_eq_true rfl) dX7_comes_12 (fun H locs hP _ hS => ?_)
  have hP : va_P (dC, dI) vwCl (wM cI cJ q (sV σ 1 ((σ.2.1 1) + 1))) H := hP
  refine lv_aload_n hx hb dX7_comes_15 rfl (lv_at hl 1 rfl) ?_
  refine va_get (D := (dC, dI)) (ci := 7) (v := .ref (q 1)) (C := RX7) (T := TX7) (N := 26) hx hb hts inX7 hown hK hP 0 rfl rfl 5 (by decide) (hts _ fl_X7_7) (fun _ h9 => h9) rfl dX7_comes_16 ?_
  refine lv_iload_n hx hb dX7_comes_19 rfl (lv_at hl 0 rfl) ?_
  refine lv_iload_n hx hb dX7_comes_20 rfl (lv_at hl 2 rfl) ?_
  refine va_iast hx hb hK hP (wM_D hd) hS 1 0 rfl rfl (by assumption) dX7_comes_21 (fun H locs hP _ hS => ?_)
  have hP : va_P (dC, dI) vwCl (wM cI cJ q (sI (sV σ 1 ((σ.2.1 1) + 1)) 0 ((σ.2.1 1).toNatClampNeg) p1)) H := hP
  refine lv_aload_n hx hb dX7_comes_22 rfl (lv_at hl 1 rfl) ?_
  refine va_get (D := (dC, dI)) (ci := 7) (v := .ref (q 2)) (C := RX7) (T := TX7) (N := 26) hx hb hts inX7 hown hK hP 0 rfl rfl 6 (by decide) (hts _ fl_X7_13) (fun _ h9 => h9) rfl dX7_comes_23 ?_
  refine lv_iload_n hx hb dX7_comes_26 rfl (lv_at hl 0 rfl) ?_
  refine lv_iload_n hx hb dX7_comes_27 rfl (lv_at hl 3 rfl) ?_
  refine va_iast hx hb hK hP (wM_D hd) hS 2 0 rfl rfl (by assumption) dX7_comes_28 (fun H locs hP _ hS => ?_)
  have hP : va_P (dC, dI) vwCl (wM cI cJ q (sI (sI (sV σ 1 ((σ.2.1 1) + 1)) 0 ((σ.2.1 1).toNatClampNeg) p1) 1 ((σ.2.1 1).toNatClampNeg) p2)) H := hP
  refine lv_aload_n hx hb dX7_comes_29 rfl (lv_at hl 1 rfl) ?_
  refine va_get (D := (dC, dI)) (ci := 7) (v := .ref (q 3)) (C := RX7) (T := TX7) (N := 26) hx hb hts inX7 hown hK hP 0 rfl rfl 7 (by decide) (hts _ fl_X7_16) (fun _ h9 => h9) rfl dX7_comes_30 ?_
  refine lv_iload_n hx hb dX7_comes_33 rfl (lv_at hl 0 rfl) ?_
  refine lv_aload_n hx hb dX7_comes_34 rfl (lv_at hl 1 rfl) ?_
  refine va_get (D := (dC, dI)) (ci := 7) (v := .int (σ.2.1 0)) (C := RX7) (T := TX7) (N := 26) hx hb hts inX7 hown hK hP 0 rfl rfl 0 (by decide) (hts _ fl_X7_81) (fun _ h9 => h9) rfl dX7_comes_35 ?_
  refine va_iast hx hb hK hP (wM_D hd) hS 3 0 rfl rfl (by assumption) dX7_comes_38 (fun H locs hP _ hS => ?_)
  have hP : va_P (dC, dI) vwCl (wM cI cJ q (sI (sI (sI (sV σ 1 ((σ.2.1 1) + 1)) 0 ((σ.2.1 1).toNatClampNeg) p1) 1 ((σ.2.1 1).toNatClampNeg) p2) 2 ((σ.2.1 1).toNatClampNeg) (σ.2.1 0))) H := hP
  refine lv_aload_n hx hb dX7_comes_39 rfl (lv_at hl 1 rfl) ?_
  refine va_get (D := (dC, dI)) (ci := 7) (v := .ref (q 4)) (C := RX7) (T := TX7) (N := 26) hx hb hts inX7 hown hK hP 0 rfl rfl 8 (by decide) (hts _ fl_X7_19) (fun _ h9 => h9) rfl dX7_comes_40 ?_
  refine lv_iload_n hx hb dX7_comes_43 rfl (lv_at hl 0 rfl) ?_
  refine lv_sipush (v := 2001) hx hb dX7_comes_44 (by decide) ?_
  refine va_iast hx hb hK hP (wM_D hd) hS 4 0 rfl rfl (by assumption) dX7_comes_47 (fun H locs hP _ hS => ?_)
  have hP : va_P (dC, dI) vwCl (wM cI cJ q (sI (sI (sI (sI (sV σ 1 ((σ.2.1 1) + 1)) 0 ((σ.2.1 1).toNatClampNeg) p1) 1 ((σ.2.1 1).toNatClampNeg) p2) 2 ((σ.2.1 1).toNatClampNeg) (σ.2.1 0)) 3 ((σ.2.1 1).toNatClampNeg) 2001)) H := hP
  refine lv_aload_n hx hb dX7_comes_48 rfl (lv_at hl 1 rfl) ?_
  refine va_get (D := (dC, dI)) (ci := 7) (v := .ref (q 5)) (C := RX7) (T := TX7) (N := 26) hx hb hts inX7 hown hK hP 0 rfl rfl 9 (by decide) (hts _ fl_X7_22) (fun _ h9 => h9) rfl dX7_comes_49 ?_
  refine lv_iload_n hx hb dX7_comes_52 rfl (lv_at hl 0 rfl) ?_
  refine lv_sipush (v := 2001) hx hb dX7_comes_53 (by decide) ?_
  refine va_iast hx hb hK hP (wM_D hd) hS 5 0 rfl rfl (by assumption) dX7_comes_56 (fun H locs hP _ hS => ?_)
  have hP : va_P (dC, dI) vwCl (wM cI cJ q (sI (sI (sI (sI (sI (sV σ 1 ((σ.2.1 1) + 1)) 0 ((σ.2.1 1).toNatClampNeg) p1) 1 ((σ.2.1 1).toNatClampNeg) p2) 2 ((σ.2.1 1).toNatClampNeg) (σ.2.1 0)) 3 ((σ.2.1 1).toNatClampNeg) 2001) 4 ((σ.2.1 1).toNatClampNeg) 2001)) H := hP
  refine lv_aload_n hx hb dX7_comes_57 rfl (lv_at hl 1 rfl) ?_
  refine va_get (D := (dC, dI)) (ci := 7) (v := .ref (q 7)) (C := RX7) (T := TX7) (N := 26) hx hb hts inX7 hown hK hP 0 rfl rfl 11 (by decide) (hts _ fl_X7_28) (fun _ h9 => h9) rfl dX7_comes_58 ?_
  refine lv_iload_n hx hb dX7_comes_61 rfl (lv_at hl 0 rfl) ?_
  refine lv_iconst (v := (-1)) hx hb dX7_comes_62 (by decide) ?_
  refine va_iast hx hb hK hP (wM_D hd) hS 7 0 rfl rfl (by assumption) dX7_comes_63 (fun H locs hP _ hS => ?_)
  have hP : va_P (dC, dI) vwCl (wM cI cJ q (sI (sI (sI (sI (sI (sI (sV σ 1 ((σ.2.1 1) + 1)) 0 ((σ.2.1 1).toNatClampNeg) p1) 1 ((σ.2.1 1).toNatClampNeg) p2) 2 ((σ.2.1 1).toNatClampNeg) (σ.2.1 0)) 3 ((σ.2.1 1).toNatClampNeg) 2001) 4 ((σ.2.1 1).toNatClampNeg) 2001) 6 ((σ.2.1 1).toNatClampNeg) (-1))) H := hP
  refine lv_iload_n hx hb dX7_comes_64 rfl (lv_at hl 0 rfl) ?_
  have hF : fX7_comes σ p1 p2 = (σ.2.1 1, (sI (sI (sI (sI (sI (sI (sV σ 1 ((σ.2.1 1) + 1)) 0 ((σ.2.1 1).toNatClampNeg) p1) 1 ((σ.2.1 1).toNatClampNeg) p2) 2 ((σ.2.1 1).toNatClampNeg) (σ.2.1 0)) 3 ((σ.2.1 1).toNatClampNeg) 2001) 4 ((σ.2.1 1).toNatClampNeg) 2001) 6 ((σ.2.1 1).toNatClampNeg) (-1))) := by rw [fX7_comes]
  have hP9 : va_P (dC, dI) vwCl (wM cI cJ q (fX7_comes σ p1 p2).2) H := by rw [hF]; exact hP
  exact W.iret (v := σ.2.1 1) hx hb hr (fun t ht hW => ⟨(by rw [hF]), by rw [ht]; exact hP9, hS.F ht⟩) hS.2.2 dX7_comes_65

def fX7_goes (σ : St) (p1 : Int32) (p2 : Int32) (p3 : Int32) (p4 : Int32) (p5 : Int32) (p6 : Int32) : St :=
  (sI (sI (sI (sI (sI (sI σ 3 p1.toNatClampNeg p2) 4 p1.toNatClampNeg (σ.2.1 0)) 5 p1.toNatClampNeg p3) 6 p1.toNatClampNeg p4) 7 p1.toNatClampNeg p5) 8 p1.toNatClampNeg p6)
set_option maxHeartbeats 4000000 in
set_option maxRecDepth 100000 in
theorem c_X7_goes (l : Launch) (dC : Nat → ClassId) (dI : Nat → Nat → Nat) (cI cJ : ClassId) (q : Nat → Nat) (σ : St) (p1 : Int32) (p2 : Int32) (p3 : Int32) (p4 : Int32) (p5 : Int32) (p6 : Int32) (hd : dT 22 q) (hT : vp_in p1 40) : Met l yX7_goes (.code yX7_goes cX7_goes 7 none :: tb) { frames := 0, cells := 0, slots := 0, locals := 0 } (Pu (dC, dI) (tyC cI cJ) (wM cI cJ q σ) [.ref (q 0), .int p1, .int p2, .int p3, .int p4, .int p5, .int p6]) (xw_Q none (dC, dI) (wM cI cJ q (fX7_goes σ p1 p2 p3 p4 p5 p6)) (aT 22 q)) 0 0 (aT 22 q) := by
  refine Met.ofW (cc := cX7_goes) (maxL := 7) (ret := none) (by decide) rfl ?_
  intro p e s m args below meth c s₁ B hml hv
  obtain ⟨rfl, hP, hK⟩ := hv
  have hx := B.exec
  have hb := B.bytes
  have hr := B.returns
  have hts0 := atoms_spec (ws := .code yX7_goes cX7_goes 7 none :: tb) B.pre
  have hts : ∀ w ∈ tb, w.before _ s = true := fun w hw => hts0 w (List.mem_cons_of_mem _ hw)
  have hown : s.vm.findClass RX7 = some m.cls := findClass_of_methodNamed B.named
  have hlocks := B.notSynchronized
  have hl := lv_entry ([.ref (q 0), .int p1, .int p2, .int p3, .int p4, .int p5, .int p6]) (n := 7) (Nat.le_of_ble_eq_true rfl)
  rw [lg_entry_eq]
  generalize (lg_sl ([.ref (q 0), .int p1, .int p2, .int p3, .int p4, .int p5, .int p6]) ++ List.replicate (7 - (lg_sl ([.ref (q 0), .int p1, .int p2, .int p3, .int p4, .int p5, .int p6])).length) Slot.unset).toArray = ls at hl ⊢
  have hl : lv_has ls 7 [(0, .ref (q 0)), (1, .int p1), (2, .int p2), (3, .int p3), (4, .int p4), (5, .int p5), (6, .int p6)] := hl
  obtain ⟨H, hHe⟩ : ∃ H, s.heap = H := ⟨_, rfl⟩
  rw [hHe] at hP ⊢
  obtain ⟨locs, hLe⟩ : ∃ x : List Loc, ([] : List Loc) = x := ⟨_, rfl⟩
  rw [hLe]
  have hS : va_S (aT 22 q) s.heap H locs := by rw [← hHe, ← hLe]; exact va_S.rf
  refine lv_aload_n hx hb dX7_goes_0 rfl (lv_at hl 0 rfl) ?_
  refine va_get (D := (dC, dI)) (ci := 7) (v := .ref (q 4)) (C := RX7) (T := TX7) (N := 26) hx hb hts inX7 hown hK hP 0 rfl rfl 8 (by decide) (hts _ fl_X7_19) (fun _ h9 => h9) rfl dX7_goes_1 ?_
  refine lv_iload_n hx hb dX7_goes_4 rfl (lv_at hl 1 rfl) ?_
  refine lv_iload_n hx hb dX7_goes_5 rfl (lv_at hl 2 rfl) ?_
  refine va_iast hx hb hK hP (wM_D hd) hS 4 0 rfl rfl (by assumption) dX7_goes_6 (fun H locs hP _ hS => ?_)
  have hP : va_P (dC, dI) vwCl (wM cI cJ q (sI σ 3 p1.toNatClampNeg p2)) H := hP
  refine lv_aload_n hx hb dX7_goes_7 rfl (lv_at hl 0 rfl) ?_
  refine va_get (D := (dC, dI)) (ci := 7) (v := .ref (q 5)) (C := RX7) (T := TX7) (N := 26) hx hb hts inX7 hown hK hP 0 rfl rfl 9 (by decide) (hts _ fl_X7_22) (fun _ h9 => h9) rfl dX7_goes_8 ?_
  refine lv_iload_n hx hb dX7_goes_11 rfl (lv_at hl 1 rfl) ?_
  refine lv_aload_n hx hb dX7_goes_12 rfl (lv_at hl 0 rfl) ?_
  refine va_get (D := (dC, dI)) (ci := 7) (v := .int (σ.2.1 0)) (C := RX7) (T := TX7) (N := 26) hx hb hts inX7 hown hK hP 0 rfl rfl 0 (by decide) (hts _ fl_X7_81) (fun _ h9 => h9) rfl dX7_goes_13 ?_
  refine va_iast hx hb hK hP (wM_D hd) hS 5 0 rfl rfl (by assumption) dX7_goes_16 (fun H locs hP _ hS => ?_)
  have hP : va_P (dC, dI) vwCl (wM cI cJ q (sI (sI σ 3 p1.toNatClampNeg p2) 4 p1.toNatClampNeg (σ.2.1 0))) H := hP
  refine lv_aload_n hx hb dX7_goes_17 rfl (lv_at hl 0 rfl) ?_
  refine va_get (D := (dC, dI)) (ci := 7) (v := .ref (q 6)) (C := RX7) (T := TX7) (N := 26) hx hb hts inX7 hown hK hP 0 rfl rfl 10 (by decide) (hts _ fl_X7_25) (fun _ h9 => h9) rfl dX7_goes_18 ?_
  refine lv_iload_n hx hb dX7_goes_21 rfl (lv_at hl 1 rfl) ?_
  refine lv_iload_n hx hb dX7_goes_22 rfl (lv_at hl 3 rfl) ?_
  refine va_iast hx hb hK hP (wM_D hd) hS 6 0 rfl rfl (by assumption) dX7_goes_23 (fun H locs hP _ hS => ?_)
  have hP : va_P (dC, dI) vwCl (wM cI cJ q (sI (sI (sI σ 3 p1.toNatClampNeg p2) 4 p1.toNatClampNeg (σ.2.1 0)) 5 p1.toNatClampNeg p3)) H := hP
  refine lv_aload_n hx hb dX7_goes_24 rfl (lv_at hl 0 rfl) ?_
  refine va_get (D := (dC, dI)) (ci := 7) (v := .ref (q 7)) (C := RX7) (T := TX7) (N := 26) hx hb hts inX7 hown hK hP 0 rfl rfl 11 (by decide) (hts _ fl_X7_28) (fun _ h9 => h9) rfl dX7_goes_25 ?_
  refine lv_iload_n hx hb dX7_goes_28 rfl (lv_at hl 1 rfl) ?_
  refine lv_iload hx hb dX7_goes_29 (lv_at hl 4 rfl) ?_
  refine va_iast hx hb hK hP (wM_D hd) hS 7 0 rfl rfl (by assumption) dX7_goes_31 (fun H locs hP _ hS => ?_)
  have hP : va_P (dC, dI) vwCl (wM cI cJ q (sI (sI (sI (sI σ 3 p1.toNatClampNeg p2) 4 p1.toNatClampNeg (σ.2.1 0)) 5 p1.toNatClampNeg p3) 6 p1.toNatClampNeg p4)) H := hP
  refine lv_aload_n hx hb dX7_goes_32 rfl (lv_at hl 0 rfl) ?_
  refine va_get (D := (dC, dI)) (ci := 7) (v := .ref (q 8)) (C := RX7) (T := TX7) (N := 26) hx hb hts inX7 hown hK hP 0 rfl rfl 12 (by decide) (hts _ fl_X7_31) (fun _ h9 => h9) rfl dX7_goes_33 ?_
  refine lv_iload_n hx hb dX7_goes_36 rfl (lv_at hl 1 rfl) ?_
  refine lv_iload hx hb dX7_goes_37 (lv_at hl 5 rfl) ?_
  refine va_iast hx hb hK hP (wM_D hd) hS 8 0 rfl rfl (by assumption) dX7_goes_39 (fun H locs hP _ hS => ?_)
  have hP : va_P (dC, dI) vwCl (wM cI cJ q (sI (sI (sI (sI (sI σ 3 p1.toNatClampNeg p2) 4 p1.toNatClampNeg (σ.2.1 0)) 5 p1.toNatClampNeg p3) 6 p1.toNatClampNeg p4) 7 p1.toNatClampNeg p5)) H := hP
  refine lv_aload_n hx hb dX7_goes_40 rfl (lv_at hl 0 rfl) ?_
  refine va_get (D := (dC, dI)) (ci := 7) (v := .ref (q 9)) (C := RX7) (T := TX7) (N := 26) hx hb hts inX7 hown hK hP 0 rfl rfl 13 (by decide) (hts _ fl_X7_34) (fun _ h9 => h9) rfl dX7_goes_41 ?_
  refine lv_iload_n hx hb dX7_goes_44 rfl (lv_at hl 1 rfl) ?_
  refine lv_iload hx hb dX7_goes_45 (lv_at hl 6 rfl) ?_
  refine va_iast hx hb hK hP (wM_D hd) hS 9 0 rfl rfl (by assumption) dX7_goes_47 (fun H locs hP _ hS => ?_)
  have hP : va_P (dC, dI) vwCl (wM cI cJ q (sI (sI (sI (sI (sI (sI σ 3 p1.toNatClampNeg p2) 4 p1.toNatClampNeg (σ.2.1 0)) 5 p1.toNatClampNeg p3) 6 p1.toNatClampNeg p4) 7 p1.toNatClampNeg p5) 8 p1.toNatClampNeg p6)) H := hP
  have hF : fX7_goes σ p1 p2 p3 p4 p5 p6 = (sI (sI (sI (sI (sI (sI σ 3 p1.toNatClampNeg p2) 4 p1.toNatClampNeg (σ.2.1 0)) 5 p1.toNatClampNeg p3) 6 p1.toNatClampNeg p4) 7 p1.toNatClampNeg p5) 8 p1.toNatClampNeg p6) := by rw [fX7_goes]
  have hP9 : va_P (dC, dI) vwCl (wM cI cJ q (fX7_goes σ p1 p2 p3 p4 p5 p6)) H := by rw [hF]; exact hP
  exact W.vret hx hb hr (fun t ht hW => ⟨rfl, by rw [ht]; exact hP9, hS.F ht⟩) hS.2.2 dX7_goes_48

def fX7_born (σ : St) (p1 : Int32) (p2 : Int32) : Int32 × St :=
  (if (fX7_isIn σ p1 0 99) = 0 then ((-2), σ) else (if (fX7_isIn σ p2 0 2000) = 0 then ((-2), σ) else (if (fX7_isTaken σ p1 p2 (-1) (-1)) = 0 then (if (σ.2.1 1) = 40 then ((-4), σ) else ((fX7_comes σ p1 p2).1, (fX7_comes σ p1 p2).2)) else ((-3), σ))))
set_option maxHeartbeats 4000000 in
set_option maxRecDepth 100000 in
theorem c_X7_born (l : Launch) (dC : Nat → ClassId) (dI : Nat → Nat → Nat) (cI cJ : ClassId) (q : Nat → Nat) (σ : St) (p1 : Int32) (p2 : Int32) (hd : dT 22 q) (hI : IB σ) : Met l yX7_born (.code yX7_born cX7_born 3 (some .int) :: tb) { frames := 3, cells := 0, slots := 0, locals := 71 } (Pu (dC, dI) (tyC cI cJ) (wM cI cJ q σ) [.ref (q 0), .int p1, .int p2]) (xw_Q (some (.int (fX7_born σ p1 p2).1)) (dC, dI) (wM cI cJ q (fX7_born σ p1 p2).2) (aT 22 q)) 0 0 (aT 22 q) := by
  refine Met.ofW (cc := cX7_born) (maxL := 3) (ret := (some .int)) (by decide) rfl ?_
  intro p e s m args below meth c s₁ B hml hv
  obtain ⟨rfl, hP, hK⟩ := hv
  have hx := B.exec
  have hb := B.bytes
  have hr := B.returns
  have hts0 := atoms_spec (ws := .code yX7_born cX7_born 3 (some .int) :: tb) B.pre
  have hts : ∀ w ∈ tb, w.before _ s = true := fun w hw => hts0 w (List.mem_cons_of_mem _ hw)
  have hown : s.vm.findClass RX7 = some m.cls := findClass_of_methodNamed B.named
  have hlocks := B.notSynchronized
  have hl := lv_entry ([.ref (q 0), .int p1, .int p2]) (n := 3) (Nat.le_of_ble_eq_true rfl)
  rw [lg_entry_eq]
  generalize (lg_sl ([.ref (q 0), .int p1, .int p2]) ++ List.replicate (3 - (lg_sl ([.ref (q 0), .int p1, .int p2])).length) Slot.unset).toArray = ls at hl ⊢
  have hl : lv_has ls 3 [(0, .ref (q 0)), (1, .int p1), (2, .int p2)] := hl
  obtain ⟨H, hHe⟩ : ∃ H, s.heap = H := ⟨_, rfl⟩
  rw [hHe] at hP ⊢
  obtain ⟨locs, hLe⟩ : ∃ x : List Loc, ([] : List Loc) = x := ⟨_, rfl⟩
  rw [hLe]
  have hS : va_S (aT 22 q) s.heap H locs := by rw [← hHe, ← hLe]; exact va_S.rf
  refine lv_iload_n hx hb dX7_born_0 rfl (lv_at hl 1 rfl) ?_
  refine xc_i (va_runS (As := [.int p1]) (rest := []) ⟨hx, hb, hml, hown, hts⟩ (c_X7_isCode l dC dI cI cJ q σ p1) (va_cwS 1 hts (gS ml_X7_91 st_X7_isCode in_X7 co_X7_isCode) rfl rfl rfl (by decide +kernel) ⟨Nat.le_of_ble_eq_true rfl, Nat.le_of_ble_eq_true rfl⟩) (preS hK hP) rfl rfl hl.1 rfl (lv_room (Nat.le_of_ble_eq_true rfl)) dX7_born_1 ⟨Nat.zero_le _, Nat.zero_le _⟩) ?_
  refine lv_if_eq (tgt := 14) hx hb dX7_born_4 (by decide) (fun c_4 => ?_) (fun c_4 => ?_)
  · refine lv_bipush (v := (-2)) hx hb dX7_born_14 (by decide) ?_
    have hF : fX7_born σ p1 p2 = ((-2), σ) := by rw [fX7_born, if_pos c_4]
    have hP9 : va_P (dC, dI) vwCl (wM cI cJ q (fX7_born σ p1 p2).2) H := by rw [hF]; exact hP
    exact W.iret (v := (-2)) hx hb hr (fun t ht hW => ⟨(by rw [hF]), by rw [ht]; exact hP9, hS.F ht⟩) hS.2.2 dX7_born_16
  · refine lv_iload_n hx hb dX7_born_7 rfl (lv_at hl 2 rfl) ?_
    refine xc_i (va_runS (As := [.int p2]) (rest := []) ⟨hx, hb, hml, hown, hts⟩ (c_X7_isDay l dC dI cI cJ q σ p2) (va_cwS 1 hts (gS ml_X7_95 st_X7_isDay in_X7 co_X7_isDay) rfl rfl rfl (by decide +kernel) ⟨Nat.le_of_ble_eq_true rfl, Nat.le_of_ble_eq_true rfl⟩) (preS hK hP) rfl rfl hl.1 rfl (lv_room (Nat.le_of_ble_eq_true rfl)) dX7_born_8 ⟨Nat.zero_le _, Nat.zero_le _⟩) ?_
    refine lv_if_ne (tgt := 17) hx hb dX7_born_11 (by decide) (fun c_11 => ?_) (fun c_11 => ?_)
    · refine lv_aload_n hx hb dX7_born_17 rfl (lv_at hl 0 rfl) ?_
      refine lv_iload_n hx hb dX7_born_18 rfl (lv_at hl 1 rfl) ?_
      refine lv_iload_n hx hb dX7_born_19 rfl (lv_at hl 2 rfl) ?_
      refine lv_iconst (v := (-1)) hx hb dX7_born_20 (by decide) ?_
      refine lv_iconst (v := (-1)) hx hb dX7_born_21 (by decide) ?_
      refine xc_i (va_runV (As := [.int p1, .int p2, .int (-1), .int (-1)]) (rest := []) ⟨hx, hb, hml, hown, hts⟩ (c_X7_isTaken l dC dI cI cJ q σ p1 p2 (-1) (-1) (by assumption)) (cwV 4 hts (gV ml_X7_98 im_X7_isTaken se_X7_isTaken in_X7 co_X7_isTaken) rfl rfl rfl (by decide +kernel) ⟨Nat.le_of_ble_eq_true rfl, Nat.le_of_ble_eq_true rfl⟩) (preV hK hP (pos := 0) (ci := 7) rfl rfl) rfl rfl hl.1 rfl (lv_room (Nat.le_of_ble_eq_true rfl)) dX7_born_22 ⟨Nat.zero_le _, Nat.zero_le _⟩) ?_
      refine lv_if_eq (tgt := 31) hx hb dX7_born_25 (by decide) (fun c_25 => ?_) (fun c_25 => ?_)
      · refine lv_aload_n hx hb dX7_born_31 rfl (lv_at hl 0 rfl) ?_
        refine va_get (D := (dC, dI)) (ci := 7) (v := .int (σ.2.1 1)) (C := RX7) (T := TX7) (N := 26) hx hb hts inX7 hown hK hP 0 rfl rfl 1 (by decide) (hts _ fl_X7_77) (fun _ h9 => h9) rfl dX7_born_32 ?_
        refine lv_bipush (v := 40) hx hb dX7_born_35 (by decide) ?_
        refine lv_icmp_ne (tgt := 45) hx hb dX7_born_37 (by decide) (fun c_37 => ?_) (fun c_37 => ?_)
        · refine lv_aload_n hx hb dX7_born_45 rfl (lv_at hl 0 rfl) ?_
          refine lv_iload_n hx hb dX7_born_46 rfl (lv_at hl 1 rfl) ?_
          refine lv_iload_n hx hb dX7_born_47 rfl (lv_at hl 2 rfl) ?_
          refine xw_c (va_runV (As := [.int p1, .int p2]) (rest := []) ⟨hx, hb, hml, hown, hts⟩ (c_X7_comes l dC dI cI cJ q σ p1 p2 (by assumption) (sz_ne hI.1 (by decide) c_37)) (cwV 2 hts (gV ml_X7_102 im_X7_comes se_X7_comes in_X7 co_X7_comes) rfl rfl rfl (by decide +kernel) ⟨Nat.le_of_ble_eq_true rfl, Nat.le_of_ble_eq_true rfl⟩) (preV hK hP (pos := 0) (ci := 7) rfl rfl) rfl rfl hl.1 rfl (lv_room (Nat.le_of_ble_eq_true rfl)) dX7_born_48 ⟨Nat.zero_le _, Nat.zero_le _⟩) hS (fun _ h => h) (fun H locs hP _ _ hS => ?_)
          have hP : va_P (dC, dI) vwCl (wM cI cJ q (fX7_comes σ p1 p2).2) H := hP
          refine W.eq (g2 := F0 m 51 ls [.int ((fX7_comes σ p1 p2).1)]) rfl ?_
          have hF : fX7_born σ p1 p2 = ((fX7_comes σ p1 p2).1, (fX7_comes σ p1 p2).2) := by rw [fX7_born, if_neg c_4, if_neg c_11, if_pos c_25, if_neg c_37]
          have hP9 : va_P (dC, dI) vwCl (wM cI cJ q (fX7_born σ p1 p2).2) H := by rw [hF]; exact hP
          exact W.iret (v := (fX7_comes σ p1 p2).1) hx hb hr (fun t ht hW => ⟨(by rw [hF]), by rw [ht]; exact hP9, hS.F ht⟩) hS.2.2 dX7_born_51
        · refine lv_bipush (v := (-4)) hx hb dX7_born_40 (by decide) ?_
          refine lv_goto (tgt := 51) hx hb dX7_born_42 (by decide) ?_
          have hF : fX7_born σ p1 p2 = ((-4), σ) := by rw [fX7_born, if_neg c_4, if_neg c_11, if_pos c_25, if_pos c_37]
          have hP9 : va_P (dC, dI) vwCl (wM cI cJ q (fX7_born σ p1 p2).2) H := by rw [hF]; exact hP
          exact W.iret (v := (-4)) hx hb hr (fun t ht hW => ⟨(by rw [hF]), by rw [ht]; exact hP9, hS.F ht⟩) hS.2.2 dX7_born_51
      · refine lv_bipush (v := (-3)) hx hb dX7_born_28 (by decide) ?_
        have hF : fX7_born σ p1 p2 = ((-3), σ) := by rw [fX7_born, if_neg c_4, if_neg c_11, if_neg c_25]
        have hP9 : va_P (dC, dI) vwCl (wM cI cJ q (fX7_born σ p1 p2).2) H := by rw [hF]; exact hP
        exact W.iret (v := (-3)) hx hb hr (fun t ht hW => ⟨(by rw [hF]), by rw [ht]; exact hP9, hS.F ht⟩) hS.2.2 dX7_born_30
    · refine lv_bipush (v := (-2)) hx hb dX7_born_14 (by decide) ?_
      have hF : fX7_born σ p1 p2 = ((-2), σ) := by rw [fX7_born, if_neg c_4, if_pos c_11]
      have hP9 : va_P (dC, dI) vwCl (wM cI cJ q (fX7_born σ p1 p2).2) H := by rw [hF]; exact hP
      exact W.iret (v := (-2)) hx hb hr (fun t ht hW => ⟨(by rw [hF]), by rw [ht]; exact hP9, hS.F ht⟩) hS.2.2 dX7_born_16

def fX7_mayEnd (σ : St) (p1 : Int32) (p2 : Int32) : Int32 :=
  (if (fX7_isIn σ p1 0 ((σ.2.1 1) - 1)) = 0 then 0 else (if (σ.1 3 p1.toNatClampNeg) = 2001 then (if (fX7_isIn σ p2 0 2000) = 0 then 0 else (if p2 ≤ (σ.1 1 p1.toNatClampNeg) then 0 else 1)) else 0))
set_option maxHeartbeats 4000000 in
set_option maxRecDepth 100000 in
theorem c_X7_mayEnd (l : Launch) (dC : Nat → ClassId) (dI : Nat → Nat → Nat) (cI cJ : ClassId) (q : Nat → Nat) (σ : St) (p1 : Int32) (p2 : Int32) (hI : IB σ) : Met l yX7_mayEnd (.code yX7_mayEnd cX7_mayEnd 3 (some .boolean) :: tb) { frames := 2, cells := 0, slots := 0, locals := 43 } (Pu (dC, dI) (tyC cI cJ) (wM cI cJ q σ) [.ref (q 0), .int p1, .int p2]) (vp_Si (fun r => r = fX7_mayEnd σ p1 p2)) 0 0 (fun _ => False) := by
  refine Met.ofW (cc := cX7_mayEnd) (maxL := 3) (ret := (some .boolean)) (by decide) rfl ?_
  intro p e s m args below meth c s₁ B hml hv
  obtain ⟨rfl, hP, hK⟩ := hv
  have hx := B.exec
  have hb := B.bytes
  have hr := B.returns
  have hts0 := atoms_spec (ws := .code yX7_mayEnd cX7_mayEnd 3 (some .boolean) :: tb) B.pre
  have hts : ∀ w ∈ tb, w.before _ s = true := fun w hw => hts0 w (List.mem_cons_of_mem _ hw)
  have hown : s.vm.findClass RX7 = some m.cls := findClass_of_methodNamed B.named
  have hlocks := B.notSynchronized
  have hl := lv_entry ([.ref (q 0), .int p1, .int p2]) (n := 3) (Nat.le_of_ble_eq_true rfl)
  rw [lg_entry_eq]
  generalize (lg_sl ([.ref (q 0), .int p1, .int p2]) ++ List.replicate (3 - (lg_sl ([.ref (q 0), .int p1, .int p2])).length) Slot.unset).toArray = ls at hl ⊢
  have hl : lv_has ls 3 [(0, .ref (q 0)), (1, .int p1), (2, .int p2)] := hl
  refine lv_aload_n hx hb dX7_mayEnd_0 rfl (lv_at hl 0 rfl) ?_
  refine lv_iload_n hx hb dX7_mayEnd_1 rfl (lv_at hl 1 rfl) ?_
  refine xc_i (va_runV (As := [.int p1]) (rest := []) ⟨hx, hb, hml, hown, hts⟩ (c_X7_isThing l dC dI cI cJ q σ p1) (cwV 1 hts (gV ml_X7_105 im_X7_isThing se_X7_isThing in_X7 co_X7_isThing) rfl rfl rfl (by decide +kernel) ⟨Nat.le_of_ble_eq_true rfl, Nat.le_of_ble_eq_true rfl⟩) (preV hK hP (pos := 0) (ci := 7) rfl rfl) rfl rfl hl.1 rfl (lv_room (Nat.le_of_ble_eq_true rfl)) dX7_mayEnd_2 ⟨Nat.zero_le _, Nat.zero_le _⟩) ?_
  refine lv_if_eq (tgt := 41) hx hb dX7_mayEnd_5 (by decide) (fun c_5 => ?_) (fun c_5 => ?_)
  · refine lv_iconst (v := 0) hx hb dX7_mayEnd_41 (by decide) ?_
    exact W.zret (v := 0) hx hb hr narrow_b0 (fun t ht hW => ⟨_, rfl, (by rw [fX7_mayEnd, if_pos c_5]), ht⟩) (fun _ h => absurd h List.not_mem_nil) dX7_mayEnd_42
  · refine lv_aload_n hx hb dX7_mayEnd_8 rfl (lv_at hl 0 rfl) ?_
    refine va_get (D := (dC, dI)) (ci := 7) (v := .ref (q 4)) (C := RX7) (T := TX7) (N := 26) hx hb hts inX7 hown hK hP 0 rfl rfl 8 (by decide) (hts _ fl_X7_19) (fun _ h9 => h9) rfl dX7_mayEnd_9 ?_
    refine lv_iload_n hx hb dX7_mayEnd_12 rfl (lv_at hl 1 rfl) ?_
    refine va_iald hx hb hK hP 4 0 rfl rfl (isIn_in40 hI c_5) dX7_mayEnd_13 ?_
    refine lv_sipush (v := 2001) hx hb dX7_mayEnd_14 (by decide) ?_
    refine lv_icmp_ne (tgt := 41) hx hb dX7_mayEnd_17 (by decide) (fun c_17 => ?_) (fun c_17 => ?_)
    · refine lv_iconst (v := 0) hx hb dX7_mayEnd_41 (by decide) ?_
      exact W.zret (v := 0) hx hb hr narrow_b0 (fun t ht hW => ⟨_, rfl, (by rw [fX7_mayEnd, if_neg c_5, if_neg c_17]), ht⟩) (fun _ h => absurd h List.not_mem_nil) dX7_mayEnd_42
    · refine lv_iload_n hx hb dX7_mayEnd_20 rfl (lv_at hl 2 rfl) ?_
      refine xc_i (va_runS (As := [.int p2]) (rest := []) ⟨hx, hb, hml, hown, hts⟩ (c_X7_isDay l dC dI cI cJ q σ p2) (va_cwS 1 hts (gS ml_X7_95 st_X7_isDay in_X7 co_X7_isDay) rfl rfl rfl (by decide +kernel) ⟨Nat.le_of_ble_eq_true rfl, Nat.le_of_ble_eq_true rfl⟩) (preS hK hP) rfl rfl hl.1 rfl (lv_room (Nat.le_of_ble_eq_true rfl)) dX7_mayEnd_21 ⟨Nat.zero_le _, Nat.zero_le _⟩) ?_
      refine lv_if_eq (tgt := 41) hx hb dX7_mayEnd_24 (by decide) (fun c_24 => ?_) (fun c_24 => ?_)
      · refine lv_iconst (v := 0) hx hb dX7_mayEnd_41 (by decide) ?_
        exact W.zret (v := 0) hx hb hr narrow_b0 (fun t ht hW => ⟨_, rfl, (by rw [fX7_mayEnd, if_neg c_5, if_pos c_17, if_pos c_24]), ht⟩) (fun _ h => absurd h List.not_mem_nil) dX7_mayEnd_42
      · refine lv_iload_n hx hb dX7_mayEnd_27 rfl (lv_at hl 2 rfl) ?_
        refine lv_aload_n hx hb dX7_mayEnd_28 rfl (lv_at hl 0 rfl) ?_
        refine va_get (D := (dC, dI)) (ci := 7) (v := .ref (q 2)) (C := RX7) (T := TX7) (N := 26) hx hb hts inX7 hown hK hP 0 rfl rfl 6 (by decide) (hts _ fl_X7_13) (fun _ h9 => h9) rfl dX7_mayEnd_29 ?_
        refine lv_iload_n hx hb dX7_mayEnd_32 rfl (lv_at hl 1 rfl) ?_
        refine va_iald hx hb hK hP 2 0 rfl rfl (isIn_in40 hI c_5) dX7_mayEnd_33 ?_
        refine lv_icmp_le (tgt := 41) hx hb dX7_mayEnd_34 (by decide) (fun c_34 => ?_) (fun c_34 => ?_)
        · refine lv_iconst (v := 0) hx hb dX7_mayEnd_41 (by decide) ?_
          exact W.zret (v := 0) hx hb hr narrow_b0 (fun t ht hW => ⟨_, rfl, (by rw [fX7_mayEnd, if_neg c_5, if_pos c_17, if_neg c_24, if_pos c_34]), ht⟩) (fun _ h => absurd h List.not_mem_nil) dX7_mayEnd_42
        · refine lv_iconst (v := 1) hx hb dX7_mayEnd_37 (by decide) ?_
          refine lv_goto (tgt := 42) hx hb dX7_mayEnd_38 (by decide) ?_
          exact W.zret (v := 1) hx hb hr narrow_b1 (fun t ht hW => ⟨_, rfl, (by rw [fX7_mayEnd, if_neg c_5, if_pos c_17, if_neg c_24, if_neg c_34]), ht⟩) (fun _ h => absurd h List.not_mem_nil) dX7_mayEnd_42

theorem mayEnd_in {σ : St} {x d : Int32} (hI : IB σ) (c : ¬ fX7_mayEnd σ x d = 0) : vp_in x 40 := by
  unfold fX7_mayEnd at c
  split at c
  · exact absurd rfl c
  · exact isIn_in40 hI (by assumption)

def fX7_ends (σ : St) (p1 : Int32) (p2 : Int32) : Int32 × St :=
  (if (fX7_mayEnd σ p1 p2) = 0 then (0, σ) else (1, (fX7_goes σ p1 p2 1 (-1) 0 1)))
set_option maxHeartbeats 4000000 in
set_option maxRecDepth 100000 in
theorem c_X7_ends (l : Launch) (dC : Nat → ClassId) (dI : Nat → Nat → Nat) (cI cJ : ClassId) (q : Nat → Nat) (σ : St) (p1 : Int32) (p2 : Int32) (hd : dT 22 q) (hI : IB σ) : Met l yX7_ends (.code yX7_ends cX7_ends 3 (some .boolean) :: tb) { frames := 3, cells := 0, slots := 0, locals := 65 } (Pu (dC, dI) (tyC cI cJ) (wM cI cJ q σ) [.ref (q 0), .int p1, .int p2]) (xw_Q (some (.int (fX7_ends σ p1 p2).1)) (dC, dI) (wM cI cJ q (fX7_ends σ p1 p2).2) (aT 22 q)) 0 0 (aT 22 q) := by
  refine Met.ofW (cc := cX7_ends) (maxL := 3) (ret := (some .boolean)) (by decide) rfl ?_
  intro p e s m args below meth c s₁ B hml hv
  obtain ⟨rfl, hP, hK⟩ := hv
  have hx := B.exec
  have hb := B.bytes
  have hr := B.returns
  have hts0 := atoms_spec (ws := .code yX7_ends cX7_ends 3 (some .boolean) :: tb) B.pre
  have hts : ∀ w ∈ tb, w.before _ s = true := fun w hw => hts0 w (List.mem_cons_of_mem _ hw)
  have hown : s.vm.findClass RX7 = some m.cls := findClass_of_methodNamed B.named
  have hlocks := B.notSynchronized
  have hl := lv_entry ([.ref (q 0), .int p1, .int p2]) (n := 3) (Nat.le_of_ble_eq_true rfl)
  rw [lg_entry_eq]
  generalize (lg_sl ([.ref (q 0), .int p1, .int p2]) ++ List.replicate (3 - (lg_sl ([.ref (q 0), .int p1, .int p2])).length) Slot.unset).toArray = ls at hl ⊢
  have hl : lv_has ls 3 [(0, .ref (q 0)), (1, .int p1), (2, .int p2)] := hl
  obtain ⟨H, hHe⟩ : ∃ H, s.heap = H := ⟨_, rfl⟩
  rw [hHe] at hP ⊢
  obtain ⟨locs, hLe⟩ : ∃ x : List Loc, ([] : List Loc) = x := ⟨_, rfl⟩
  rw [hLe]
  have hS : va_S (aT 22 q) s.heap H locs := by rw [← hHe, ← hLe]; exact va_S.rf
  refine lv_aload_n hx hb dX7_ends_0 rfl (lv_at hl 0 rfl) ?_
  refine lv_iload_n hx hb dX7_ends_1 rfl (lv_at hl 1 rfl) ?_
  refine lv_iload_n hx hb dX7_ends_2 rfl (lv_at hl 2 rfl) ?_
  refine xc_i (va_runV (As := [.int p1, .int p2]) (rest := []) ⟨hx, hb, hml, hown, hts⟩ (c_X7_mayEnd l dC dI cI cJ q σ p1 p2 (by assumption)) (cwV 2 hts (gV ml_X7_108 im_X7_mayEnd se_X7_mayEnd in_X7 co_X7_mayEnd) rfl rfl rfl (by decide +kernel) ⟨Nat.le_of_ble_eq_true rfl, Nat.le_of_ble_eq_true rfl⟩) (preV hK hP (pos := 0) (ci := 7) rfl rfl) rfl rfl hl.1 rfl (lv_room (Nat.le_of_ble_eq_true rfl)) dX7_ends_3 ⟨Nat.zero_le _, Nat.zero_le _⟩) ?_
  refine lv_if_ne (tgt := 11) hx hb dX7_ends_6 (by decide) (fun c_6 => ?_) (fun c_6 => ?_)
  · refine lv_aload_n hx hb dX7_ends_11 rfl (lv_at hl 0 rfl) ?_
    refine lv_iload_n hx hb dX7_ends_12 rfl (lv_at hl 1 rfl) ?_
    refine lv_iload_n hx hb dX7_ends_13 rfl (lv_at hl 2 rfl) ?_
    refine lv_iconst (v := 1) hx hb dX7_ends_14 (by decide) ?_
    refine lv_iconst (v := (-1)) hx hb dX7_ends_15 (by decide) ?_
    refine lv_iconst (v := 0) hx hb dX7_ends_16 (by decide) ?_
    refine lv_iconst (v := 1) hx hb dX7_ends_17 (by decide) ?_
    refine xw_c (va_runV (As := [.int p1, .int p2, .int 1, .int (-1), .int 0, .int 1]) (rest := []) ⟨hx, hb, hml, hown, hts⟩ (c_X7_goes l dC dI cI cJ q σ p1 p2 1 (-1) 0 1 (by assumption) (mayEnd_in hI c_6)) (cwV 6 hts (gV ml_X7_112 im_X7_goes se_X7_goes in_X7 co_X7_goes) rfl rfl rfl (by decide +kernel) ⟨Nat.le_of_ble_eq_true rfl, Nat.le_of_ble_eq_true rfl⟩) (preV hK hP (pos := 0) (ci := 7) rfl rfl) rfl rfl hl.1 rfl (lv_room (Nat.le_of_ble_eq_true rfl)) dX7_ends_18 ⟨Nat.zero_le _, Nat.zero_le _⟩) hS (fun _ h => h) (fun H locs hP _ _ hS => ?_)
    have hP : va_P (dC, dI) vwCl (wM cI cJ q (fX7_goes σ p1 p2 1 (-1) 0 1)) H := hP
    refine W.eq (g2 := F0 m 21 ls []) rfl ?_
    refine lv_iconst (v := 1) hx hb dX7_ends_21 (by decide) ?_
    have hF : fX7_ends σ p1 p2 = (1, (fX7_goes σ p1 p2 1 (-1) 0 1)) := by rw [fX7_ends, if_neg c_6]
    have hP9 : va_P (dC, dI) vwCl (wM cI cJ q (fX7_ends σ p1 p2).2) H := by rw [hF]; exact hP
    exact W.zret (v := 1) hx hb hr narrow_b1 (fun t ht hW => ⟨(by rw [hF]), by rw [ht]; exact hP9, hS.F ht⟩) hS.2.2 dX7_ends_22
  · refine lv_iconst (v := 0) hx hb dX7_ends_9 (by decide) ?_
    have hF : fX7_ends σ p1 p2 = (0, σ) := by rw [fX7_ends, if_pos c_6]
    have hP9 : va_P (dC, dI) vwCl (wM cI cJ q (fX7_ends σ p1 p2).2) H := by rw [hF]; exact hP
    exact W.zret (v := 0) hx hb hr narrow_b0 (fun t ht hW => ⟨(by rw [hF]), by rw [ht]; exact hP9, hS.F ht⟩) hS.2.2 dX7_ends_10

def fX7_split (σ : St) (p1 : Int32) (p2 : Int32) (p3 : Int32) (p4 : Int32) (p5 : Int32) (p6 : Int32) : Int32 × St :=
  (if (fX7_mayEnd σ p1 p2) = 0 then ((-2), σ) else (if (fX7_isIn σ p3 0 99) = 0 then ((-2), σ) else (if (fX7_isIn σ p4 0 99) = 0 then ((-2), σ) else (if p3 = p4 then ((-2), σ) else (if (fX7_isIn σ p6 1 100) = 0 then ((-2), σ) else (if (fX7_isIn σ p5 0 p6) = 0 then ((-2), σ) else (if (fX7_isTaken σ p3 p2 p1 (-1)) = 0 then (if (fX7_isTaken σ p4 p2 p1 (-1)) = 0 then (if (σ.2.1 1) ≤ 38 then ((fX7_comes σ p3 p2).1, (fX7_goes (fX7_comes (fX7_comes σ p3 p2).2 p4 p2).2 p1 p2 2 ((fX7_comes σ p3 p2).1) p5 p6)) else ((-4), σ)) else ((-3), σ)) else ((-3), σ))))))))
set_option maxHeartbeats 4000000 in
set_option maxRecDepth 100000 in
theorem c_X7_split (l : Launch) (dC : Nat → ClassId) (dI : Nat → Nat → Nat) (cI cJ : ClassId) (q : Nat → Nat) (σ : St) (p1 : Int32) (p2 : Int32) (p3 : Int32) (p4 : Int32) (p5 : Int32) (p6 : Int32) (hd : dT 22 q) (hI : IB σ) : Met l yX7_split (.code yX7_split cX7_split 8 (some .int) :: tb) { frames := 3, cells := 0, slots := 0, locals := 71 } (Pu (dC, dI) (tyC cI cJ) (wM cI cJ q σ) [.ref (q 0), .int p1, .int p2, .int p3, .int p4, .int p5, .int p6]) (xw_Q (some (.int (fX7_split σ p1 p2 p3 p4 p5 p6).1)) (dC, dI) (wM cI cJ q (fX7_split σ p1 p2 p3 p4 p5 p6).2) (aT 22 q)) 0 0 (aT 22 q) := by
  refine Met.ofW (cc := cX7_split) (maxL := 8) (ret := (some .int)) (by decide) rfl ?_
  intro p e s m args below meth c s₁ B hml hv
  obtain ⟨rfl, hP, hK⟩ := hv
  have hx := B.exec
  have hb := B.bytes
  have hr := B.returns
  have hts0 := atoms_spec (ws := .code yX7_split cX7_split 8 (some .int) :: tb) B.pre
  have hts : ∀ w ∈ tb, w.before _ s = true := fun w hw => hts0 w (List.mem_cons_of_mem _ hw)
  have hown : s.vm.findClass RX7 = some m.cls := findClass_of_methodNamed B.named
  have hlocks := B.notSynchronized
  have hl := lv_entry ([.ref (q 0), .int p1, .int p2, .int p3, .int p4, .int p5, .int p6]) (n := 8) (Nat.le_of_ble_eq_true rfl)
  rw [lg_entry_eq]
  generalize (lg_sl ([.ref (q 0), .int p1, .int p2, .int p3, .int p4, .int p5, .int p6]) ++ List.replicate (8 - (lg_sl ([.ref (q 0), .int p1, .int p2, .int p3, .int p4, .int p5, .int p6])).length) Slot.unset).toArray = ls at hl ⊢
  have hl : lv_has ls 8 [(0, .ref (q 0)), (1, .int p1), (2, .int p2), (3, .int p3), (4, .int p4), (5, .int p5), (6, .int p6)] := hl
  obtain ⟨H, hHe⟩ : ∃ H, s.heap = H := ⟨_, rfl⟩
  rw [hHe] at hP ⊢
  obtain ⟨locs, hLe⟩ : ∃ x : List Loc, ([] : List Loc) = x := ⟨_, rfl⟩
  rw [hLe]
  have hS : va_S (aT 22 q) s.heap H locs := by rw [← hHe, ← hLe]; exact va_S.rf
  refine lv_aload_n hx hb dX7_split_0 rfl (lv_at hl 0 rfl) ?_
  refine lv_iload_n hx hb dX7_split_1 rfl (lv_at hl 1 rfl) ?_
  refine lv_iload_n hx hb dX7_split_2 rfl (lv_at hl 2 rfl) ?_
  refine xc_i (va_runV (As := [.int p1, .int p2]) (rest := []) ⟨hx, hb, hml, hown, hts⟩ (c_X7_mayEnd l dC dI cI cJ q σ p1 p2 (by assumption)) (cwV 2 hts (gV ml_X7_108 im_X7_mayEnd se_X7_mayEnd in_X7 co_X7_mayEnd) rfl rfl rfl (by decide +kernel) ⟨Nat.le_of_ble_eq_true rfl, Nat.le_of_ble_eq_true rfl⟩) (preV hK hP (pos := 0) (ci := 7) rfl rfl) rfl rfl hl.1 rfl (lv_room (Nat.le_of_ble_eq_true rfl)) dX7_split_3 ⟨Nat.zero_le _, Nat.zero_le _⟩) ?_
  refine lv_if_eq (tgt := 52) hx hb dX7_split_6 (by decide) (fun c_6 => ?_) (fun c_6 => ?_)
  · refine lv_bipush (v := (-2)) hx hb dX7_split_52 (by decide) ?_
    have hF : fX7_split σ p1 p2 p3 p4 p5 p6 = ((-2), σ) := by rw [fX7_split, if_pos c_6]
    have hP9 : va_P (dC, dI) vwCl (wM cI cJ q (fX7_split σ p1 p2 p3 p4 p5 p6).2) H := by rw [hF]; exact hP
    exact W.iret (v := (-2)) hx hb hr (fun t ht hW => ⟨(by rw [hF]), by rw [ht]; exact hP9, hS.F ht⟩) hS.2.2 dX7_split_54
  · refine lv_iload_n hx hb dX7_split_9 rfl (lv_at hl 3 rfl) ?_
    refine xc_i (va_runS (As := [.int p3]) (rest := []) ⟨hx, hb, hml, hown, hts⟩ (c_X7_isCode l dC dI cI cJ q σ p3) (va_cwS 1 hts (gS ml_X7_91 st_X7_isCode in_X7 co_X7_isCode) rfl rfl rfl (by decide +kernel) ⟨Nat.le_of_ble_eq_true rfl, Nat.le_of_ble_eq_true rfl⟩) (preS hK hP) rfl rfl hl.1 rfl (lv_room (Nat.le_of_ble_eq_true rfl)) dX7_split_10 ⟨Nat.zero_le _, Nat.zero_le _⟩) ?_
    refine lv_if_eq (tgt := 52) hx hb dX7_split_13 (by decide) (fun c_13 => ?_) (fun c_13 => ?_)
    · refine lv_bipush (v := (-2)) hx hb dX7_split_52 (by decide) ?_
      have hF : fX7_split σ p1 p2 p3 p4 p5 p6 = ((-2), σ) := by rw [fX7_split, if_neg c_6, if_pos c_13]
      have hP9 : va_P (dC, dI) vwCl (wM cI cJ q (fX7_split σ p1 p2 p3 p4 p5 p6).2) H := by rw [hF]; exact hP
      exact W.iret (v := (-2)) hx hb hr (fun t ht hW => ⟨(by rw [hF]), by rw [ht]; exact hP9, hS.F ht⟩) hS.2.2 dX7_split_54
    · refine lv_iload hx hb dX7_split_16 (lv_at hl 4 rfl) ?_
      refine xc_i (va_runS (As := [.int p4]) (rest := []) ⟨hx, hb, hml, hown, hts⟩ (c_X7_isCode l dC dI cI cJ q σ p4) (va_cwS 1 hts (gS ml_X7_91 st_X7_isCode in_X7 co_X7_isCode) rfl rfl rfl (by decide +kernel) ⟨Nat.le_of_ble_eq_true rfl, Nat.le_of_ble_eq_true rfl⟩) (preS hK hP) rfl rfl hl.1 rfl (lv_room (Nat.le_of_ble_eq_true rfl)) dX7_split_18 ⟨Nat.zero_le _, Nat.zero_le _⟩) ?_
      refine lv_if_eq (tgt := 52) hx hb dX7_split_21 (by decide) (fun c_21 => ?_) (fun c_21 => ?_)
      · refine lv_bipush (v := (-2)) hx hb dX7_split_52 (by decide) ?_
        have hF : fX7_split σ p1 p2 p3 p4 p5 p6 = ((-2), σ) := by rw [fX7_split, if_neg c_6, if_neg c_13, if_pos c_21]
        have hP9 : va_P (dC, dI) vwCl (wM cI cJ q (fX7_split σ p1 p2 p3 p4 p5 p6).2) H := by rw [hF]; exact hP
        exact W.iret (v := (-2)) hx hb hr (fun t ht hW => ⟨(by rw [hF]), by rw [ht]; exact hP9, hS.F ht⟩) hS.2.2 dX7_split_54
      · refine lv_iload_n hx hb dX7_split_24 rfl (lv_at hl 3 rfl) ?_
        refine lv_iload hx hb dX7_split_25 (lv_at hl 4 rfl) ?_
        refine lv_icmp_eq (tgt := 52) hx hb dX7_split_27 (by decide) (fun c_27 => ?_) (fun c_27 => ?_)
        · refine lv_bipush (v := (-2)) hx hb dX7_split_52 (by decide) ?_
          have hF : fX7_split σ p1 p2 p3 p4 p5 p6 = ((-2), σ) := by rw [fX7_split, if_neg c_6, if_neg c_13, if_neg c_21, if_pos c_27]
          have hP9 : va_P (dC, dI) vwCl (wM cI cJ q (fX7_split σ p1 p2 p3 p4 p5 p6).2) H := by rw [hF]; exact hP
          exact W.iret (v := (-2)) hx hb hr (fun t ht hW => ⟨(by rw [hF]), by rw [ht]; exact hP9, hS.F ht⟩) hS.2.2 dX7_split_54
        · refine lv_iload hx hb dX7_split_30 (lv_at hl 6 rfl) ?_
          refine lv_iconst (v := 1) hx hb dX7_split_32 (by decide) ?_
          refine lv_bipush (v := 100) hx hb dX7_split_33 (by decide) ?_
          refine xc_i (va_runS (As := [.int p6, .int 1, .int 100]) (rest := []) ⟨hx, hb, hml, hown, hts⟩ (c_X7_isIn l dC dI cI cJ q σ p6 1 100) (va_cwS 3 hts (gS ml_X7_73 st_X7_isIn in_X7 co_X7_isIn) rfl rfl rfl (by decide +kernel) ⟨Nat.le_of_ble_eq_true rfl, Nat.le_of_ble_eq_true rfl⟩) (preS hK hP) rfl rfl hl.1 rfl (lv_room (Nat.le_of_ble_eq_true rfl)) dX7_split_35 ⟨Nat.zero_le _, Nat.zero_le _⟩) ?_
          refine lv_if_eq (tgt := 52) hx hb dX7_split_38 (by decide) (fun c_38 => ?_) (fun c_38 => ?_)
          · refine lv_bipush (v := (-2)) hx hb dX7_split_52 (by decide) ?_
            have hF : fX7_split σ p1 p2 p3 p4 p5 p6 = ((-2), σ) := by rw [fX7_split, if_neg c_6, if_neg c_13, if_neg c_21, if_neg c_27, if_pos c_38]
            have hP9 : va_P (dC, dI) vwCl (wM cI cJ q (fX7_split σ p1 p2 p3 p4 p5 p6).2) H := by rw [hF]; exact hP
            exact W.iret (v := (-2)) hx hb hr (fun t ht hW => ⟨(by rw [hF]), by rw [ht]; exact hP9, hS.F ht⟩) hS.2.2 dX7_split_54
          · refine lv_iload hx hb dX7_split_41 (lv_at hl 5 rfl) ?_
            refine lv_iconst (v := 0) hx hb dX7_split_43 (by decide) ?_
            refine lv_iload hx hb dX7_split_44 (lv_at hl 6 rfl) ?_
            refine xc_i (va_runS (As := [.int p5, .int 0, .int p6]) (rest := []) ⟨hx, hb, hml, hown, hts⟩ (c_X7_isIn l dC dI cI cJ q σ p5 0 p6) (va_cwS 3 hts (gS ml_X7_73 st_X7_isIn in_X7 co_X7_isIn) rfl rfl rfl (by decide +kernel) ⟨Nat.le_of_ble_eq_true rfl, Nat.le_of_ble_eq_true rfl⟩) (preS hK hP) rfl rfl hl.1 rfl (lv_room (Nat.le_of_ble_eq_true rfl)) dX7_split_46 ⟨Nat.zero_le _, Nat.zero_le _⟩) ?_
            refine lv_if_ne (tgt := 55) hx hb dX7_split_49 (by decide) (fun c_49 => ?_) (fun c_49 => ?_)
            · refine lv_aload_n hx hb dX7_split_55 rfl (lv_at hl 0 rfl) ?_
              refine lv_iload_n hx hb dX7_split_56 rfl (lv_at hl 3 rfl) ?_
              refine lv_iload_n hx hb dX7_split_57 rfl (lv_at hl 2 rfl) ?_
              refine lv_iload_n hx hb dX7_split_58 rfl (lv_at hl 1 rfl) ?_
              refine lv_iconst (v := (-1)) hx hb dX7_split_59 (by decide) ?_
              refine xc_i (va_runV (As := [.int p3, .int p2, .int p1, .int (-1)]) (rest := []) ⟨hx, hb, hml, hown, hts⟩ (c_X7_isTaken l dC dI cI cJ q σ p3 p2 p1 (-1) (by assumption)) (cwV 4 hts (gV ml_X7_98 im_X7_isTaken se_X7_isTaken in_X7 co_X7_isTaken) rfl rfl rfl (by decide +kernel) ⟨Nat.le_of_ble_eq_true rfl, Nat.le_of_ble_eq_true rfl⟩) (preV hK hP (pos := 0) (ci := 7) rfl rfl) rfl rfl hl.1 rfl (lv_room (Nat.le_of_ble_eq_true rfl)) dX7_split_60 ⟨Nat.zero_le _, Nat.zero_le _⟩) ?_
              refine lv_if_ne (tgt := 78) hx hb dX7_split_63 (by decide) (fun c_63 => ?_) (fun c_63 => ?_)
              · refine lv_bipush (v := (-3)) hx hb dX7_split_78 (by decide) ?_
                have hF : fX7_split σ p1 p2 p3 p4 p5 p6 = ((-3), σ) := by rw [fX7_split, if_neg c_6, if_neg c_13, if_neg c_21, if_neg c_27, if_neg c_38, if_neg c_49, if_neg c_63]
                have hP9 : va_P (dC, dI) vwCl (wM cI cJ q (fX7_split σ p1 p2 p3 p4 p5 p6).2) H := by rw [hF]; exact hP
                exact W.iret (v := (-3)) hx hb hr (fun t ht hW => ⟨(by rw [hF]), by rw [ht]; exact hP9, hS.F ht⟩) hS.2.2 dX7_split_80
              · refine lv_aload_n hx hb dX7_split_66 rfl (lv_at hl 0 rfl) ?_
                refine lv_iload hx hb dX7_split_67 (lv_at hl 4 rfl) ?_
                refine lv_iload_n hx hb dX7_split_69 rfl (lv_at hl 2 rfl) ?_
                refine lv_iload_n hx hb dX7_split_70 rfl (lv_at hl 1 rfl) ?_
                refine lv_iconst (v := (-1)) hx hb dX7_split_71 (by decide) ?_
                refine xc_i (va_runV (As := [.int p4, .int p2, .int p1, .int (-1)]) (rest := []) ⟨hx, hb, hml, hown, hts⟩ (c_X7_isTaken l dC dI cI cJ q σ p4 p2 p1 (-1) (by assumption)) (cwV 4 hts (gV ml_X7_98 im_X7_isTaken se_X7_isTaken in_X7 co_X7_isTaken) rfl rfl rfl (by decide +kernel) ⟨Nat.le_of_ble_eq_true rfl, Nat.le_of_ble_eq_true rfl⟩) (preV hK hP (pos := 0) (ci := 7) rfl rfl) rfl rfl hl.1 rfl (lv_room (Nat.le_of_ble_eq_true rfl)) dX7_split_72 ⟨Nat.zero_le _, Nat.zero_le _⟩) ?_
                refine lv_if_eq (tgt := 81) hx hb dX7_split_75 (by decide) (fun c_75 => ?_) (fun c_75 => ?_)
                · refine lv_aload_n hx hb dX7_split_81 rfl (lv_at hl 0 rfl) ?_
                  refine va_get (D := (dC, dI)) (ci := 7) (v := .int (σ.2.1 1)) (C := RX7) (T := TX7) (N := 26) hx hb hts inX7 hown hK hP 0 rfl rfl 1 (by decide) (hts _ fl_X7_77) (fun _ h9 => h9) rfl dX7_split_82 ?_
                  refine lv_bipush (v := 38) hx hb dX7_split_85 (by decide) ?_
                  refine lv_icmp_le (tgt := 93) hx hb dX7_split_87 (by decide) (fun c_87 => ?_) (fun c_87 => ?_)
                  · refine lv_aload_n hx hb dX7_split_93 rfl (lv_at hl 0 rfl) ?_
                    refine lv_iload_n hx hb dX7_split_94 rfl (lv_at hl 3 rfl) ?_
                    refine lv_iload_n hx hb dX7_split_95 rfl (lv_at hl 2 rfl) ?_
                    refine xw_c (va_runV (As := [.int p3, .int p2]) (rest := []) ⟨hx, hb, hml, hown, hts⟩ (c_X7_comes l dC dI cI cJ q σ p3 p2 (by assumption) (sz_38 hI.1 c_87).1) (cwV 2 hts (gV ml_X7_102 im_X7_comes se_X7_comes in_X7 co_X7_comes) rfl rfl rfl (by decide +kernel) ⟨Nat.le_of_ble_eq_true rfl, Nat.le_of_ble_eq_true rfl⟩) (preV hK hP (pos := 0) (ci := 7) rfl rfl) rfl rfl hl.1 rfl (lv_room (Nat.le_of_ble_eq_true rfl)) dX7_split_96 ⟨Nat.zero_le _, Nat.zero_le _⟩) hS (fun _ h => h) (fun H locs hP _ _ hS => ?_)
                    have hP : va_P (dC, dI) vwCl (wM cI cJ q (fX7_comes σ p3 p2).2) H := hP
                    refine W.eq (g2 := F0 m 99 ls [.int ((fX7_comes σ p3 p2).1)]) rfl ?_
                    refine lv_istore (lv' := [(7, .int ((fX7_comes σ p3 p2).1)), (0, .ref (q 0)), (1, .int p1), (2, .int p2), (3, .int p3), (4, .int p4), (5, .int p5), (6, .int p6)]) hx hb dX7_split_99 hl (by decide) rfl (fun ls hl => ?_)
                    refine lv_aload_n hx hb dX7_split_101 rfl (lv_at hl 1 rfl) ?_
                    refine lv_iload hx hb dX7_split_102 (lv_at hl 5 rfl) ?_
                    refine lv_iload_n hx hb dX7_split_104 rfl (lv_at hl 3 rfl) ?_
                    refine xw_c (va_runV (As := [.int p4, .int p2]) (rest := []) ⟨hx, hb, hml, hown, hts⟩ (c_X7_comes l dC dI cI cJ q (fX7_comes σ p3 p2).2 p4 p2 (by assumption) (sz_38 hI.1 c_87).2) (cwV 2 hts (gV ml_X7_102 im_X7_comes se_X7_comes in_X7 co_X7_comes) rfl rfl rfl (by decide +kernel) ⟨Nat.le_of_ble_eq_true rfl, Nat.le_of_ble_eq_true rfl⟩) (preV hK hP (pos := 0) (ci := 7) rfl rfl) rfl rfl hl.1 rfl (lv_room (Nat.le_of_ble_eq_true rfl)) dX7_split_105 ⟨Nat.zero_le _, Nat.zero_le _⟩) hS (fun _ h => h) (fun H locs hP _ _ hS => ?_)
                    have hP : va_P (dC, dI) vwCl (wM cI cJ q (fX7_comes (fX7_comes σ p3 p2).2 p4 p2).2) H := hP
                    refine W.eq (g2 := F0 m 108 ls [.int ((fX7_comes (fX7_comes σ p3 p2).2 p4 p2).1)]) rfl ?_
                    refine lv_pop hx hb dX7_split_108 rfl ?_
                    refine lv_aload_n hx hb dX7_split_109 rfl (lv_at hl 1 rfl) ?_
                    refine lv_iload_n hx hb dX7_split_110 rfl (lv_at hl 2 rfl) ?_
                    refine lv_iload_n hx hb dX7_split_111 rfl (lv_at hl 3 rfl) ?_
                    refine lv_iconst (v := 2) hx hb dX7_split_112 (by decide) ?_
                    refine lv_iload hx hb dX7_split_113 (lv_at hl 0 rfl) ?_
                    refine lv_iload hx hb dX7_split_115 (lv_at hl 6 rfl) ?_
                    refine lv_iload hx hb dX7_split_117 (lv_at hl 7 rfl) ?_
                    refine xw_c (va_runV (As := [.int p1, .int p2, .int 2, .int ((fX7_comes σ p3 p2).1), .int p5, .int p6]) (rest := []) ⟨hx, hb, hml, hown, hts⟩ (c_X7_goes l dC dI cI cJ q (fX7_comes (fX7_comes σ p3 p2).2 p4 p2).2 p1 p2 2 ((fX7_comes σ p3 p2).1) p5 p6 (by assumption) (mayEnd_in hI c_6)) (cwV 6 hts (gV ml_X7_112 im_X7_goes se_X7_goes in_X7 co_X7_goes) rfl rfl rfl (by decide +kernel) ⟨Nat.le_of_ble_eq_true rfl, Nat.le_of_ble_eq_true rfl⟩) (preV hK hP (pos := 0) (ci := 7) rfl rfl) rfl rfl hl.1 rfl (lv_room (Nat.le_of_ble_eq_true rfl)) dX7_split_119 ⟨Nat.zero_le _, Nat.zero_le _⟩) hS (fun _ h => h) (fun H locs hP _ _ hS => ?_)
                    have hP : va_P (dC, dI) vwCl (wM cI cJ q (fX7_goes (fX7_comes (fX7_comes σ p3 p2).2 p4 p2).2 p1 p2 2 ((fX7_comes σ p3 p2).1) p5 p6)) H := hP
                    refine W.eq (g2 := F0 m 122 ls []) rfl ?_
                    refine lv_iload hx hb dX7_split_122 (lv_at hl 0 rfl) ?_
                    have hF : fX7_split σ p1 p2 p3 p4 p5 p6 = ((fX7_comes σ p3 p2).1, (fX7_goes (fX7_comes (fX7_comes σ p3 p2).2 p4 p2).2 p1 p2 2 ((fX7_comes σ p3 p2).1) p5 p6)) := by rw [fX7_split, if_neg c_6, if_neg c_13, if_neg c_21, if_neg c_27, if_neg c_38, if_neg c_49, if_pos c_63, if_pos c_75, if_pos c_87]
                    have hP9 : va_P (dC, dI) vwCl (wM cI cJ q (fX7_split σ p1 p2 p3 p4 p5 p6).2) H := by rw [hF]; exact hP
                    exact W.iret (v := (fX7_comes σ p3 p2).1) hx hb hr (fun t ht hW => ⟨(by rw [hF]), by rw [ht]; exact hP9, hS.F ht⟩) hS.2.2 dX7_split_124
                  · refine lv_bipush (v := (-4)) hx hb dX7_split_90 (by decide) ?_
                    have hF : fX7_split σ p1 p2 p3 p4 p5 p6 = ((-4), σ) := by rw [fX7_split, if_neg c_6, if_neg c_13, if_neg c_21, if_neg c_27, if_neg c_38, if_neg c_49, if_pos c_63, if_pos c_75, if_neg c_87]
                    have hP9 : va_P (dC, dI) vwCl (wM cI cJ q (fX7_split σ p1 p2 p3 p4 p5 p6).2) H := by rw [hF]; exact hP
                    exact W.iret (v := (-4)) hx hb hr (fun t ht hW => ⟨(by rw [hF]), by rw [ht]; exact hP9, hS.F ht⟩) hS.2.2 dX7_split_92
                · refine lv_bipush (v := (-3)) hx hb dX7_split_78 (by decide) ?_
                  have hF : fX7_split σ p1 p2 p3 p4 p5 p6 = ((-3), σ) := by rw [fX7_split, if_neg c_6, if_neg c_13, if_neg c_21, if_neg c_27, if_neg c_38, if_neg c_49, if_pos c_63, if_neg c_75]
                  have hP9 : va_P (dC, dI) vwCl (wM cI cJ q (fX7_split σ p1 p2 p3 p4 p5 p6).2) H := by rw [hF]; exact hP
                  exact W.iret (v := (-3)) hx hb hr (fun t ht hW => ⟨(by rw [hF]), by rw [ht]; exact hP9, hS.F ht⟩) hS.2.2 dX7_split_80
            · refine lv_bipush (v := (-2)) hx hb dX7_split_52 (by decide) ?_
              have hF : fX7_split σ p1 p2 p3 p4 p5 p6 = ((-2), σ) := by rw [fX7_split, if_neg c_6, if_neg c_13, if_neg c_21, if_neg c_27, if_neg c_38, if_pos c_49]
              have hP9 : va_P (dC, dI) vwCl (wM cI cJ q (fX7_split σ p1 p2 p3 p4 p5 p6).2) H := by rw [hF]; exact hP
              exact W.iret (v := (-2)) hx hb hr (fun t ht hW => ⟨(by rw [hF]), by rw [ht]; exact hP9, hS.F ht⟩) hS.2.2 dX7_split_54

def fX7_join (σ : St) (p1 : Int32) (p2 : Int32) (p3 : Int32) (p4 : Int32) : Int32 × St :=
  (if (fX7_mayEnd σ p1 p3) = 0 then ((-2), σ) else (if (fX7_mayEnd σ p2 p3) = 0 then ((-2), σ) else (if p1 = p2 then ((-2), σ) else (if (fX7_isIn σ p4 0 99) = 0 then ((-2), σ) else (if (fX7_isTaken σ p4 p3 p1 p2) = 0 then (if (σ.2.1 1) = 40 then ((-4), σ) else ((fX7_comes σ p4 p3).1, (fX7_goes (fX7_goes (fX7_comes σ p4 p3).2 p1 p3 3 ((fX7_comes σ p4 p3).1) 1 1) p2 p3 3 ((fX7_comes σ p4 p3).1) 1 1))) else ((-3), σ))))))
set_option maxHeartbeats 4000000 in
set_option maxRecDepth 100000 in
theorem c_X7_join (l : Launch) (dC : Nat → ClassId) (dI : Nat → Nat → Nat) (cI cJ : ClassId) (q : Nat → Nat) (σ : St) (p1 : Int32) (p2 : Int32) (p3 : Int32) (p4 : Int32) (hd : dT 22 q) (hI : IB σ) : Met l yX7_join (.code yX7_join cX7_join 6 (some .int) :: tb) { frames := 3, cells := 0, slots := 0, locals := 71 } (Pu (dC, dI) (tyC cI cJ) (wM cI cJ q σ) [.ref (q 0), .int p1, .int p2, .int p3, .int p4]) (xw_Q (some (.int (fX7_join σ p1 p2 p3 p4).1)) (dC, dI) (wM cI cJ q (fX7_join σ p1 p2 p3 p4).2) (aT 22 q)) 0 0 (aT 22 q) := by
  refine Met.ofW (cc := cX7_join) (maxL := 6) (ret := (some .int)) (by decide) rfl ?_
  intro p e s m args below meth c s₁ B hml hv
  obtain ⟨rfl, hP, hK⟩ := hv
  have hx := B.exec
  have hb := B.bytes
  have hr := B.returns
  have hts0 := atoms_spec (ws := .code yX7_join cX7_join 6 (some .int) :: tb) B.pre
  have hts : ∀ w ∈ tb, w.before _ s = true := fun w hw => hts0 w (List.mem_cons_of_mem _ hw)
  have hown : s.vm.findClass RX7 = some m.cls := findClass_of_methodNamed B.named
  have hlocks := B.notSynchronized
  have hl := lv_entry ([.ref (q 0), .int p1, .int p2, .int p3, .int p4]) (n := 6) (Nat.le_of_ble_eq_true rfl)
  rw [lg_entry_eq]
  generalize (lg_sl ([.ref (q 0), .int p1, .int p2, .int p3, .int p4]) ++ List.replicate (6 - (lg_sl ([.ref (q 0), .int p1, .int p2, .int p3, .int p4])).length) Slot.unset).toArray = ls at hl ⊢
  have hl : lv_has ls 6 [(0, .ref (q 0)), (1, .int p1), (2, .int p2), (3, .int p3), (4, .int p4)] := hl
  obtain ⟨H, hHe⟩ : ∃ H, s.heap = H := ⟨_, rfl⟩
  rw [hHe] at hP ⊢
  obtain ⟨locs, hLe⟩ : ∃ x : List Loc, ([] : List Loc) = x := ⟨_, rfl⟩
  rw [hLe]
  have hS : va_S (aT 22 q) s.heap H locs := by rw [← hHe, ← hLe]; exact va_S.rf
  refine lv_aload_n hx hb dX7_join_0 rfl (lv_at hl 0 rfl) ?_
  refine lv_iload_n hx hb dX7_join_1 rfl (lv_at hl 1 rfl) ?_
  refine lv_iload_n hx hb dX7_join_2 rfl (lv_at hl 3 rfl) ?_
  refine xc_i (va_runV (As := [.int p1, .int p3]) (rest := []) ⟨hx, hb, hml, hown, hts⟩ (c_X7_mayEnd l dC dI cI cJ q σ p1 p3 (by assumption)) (cwV 2 hts (gV ml_X7_108 im_X7_mayEnd se_X7_mayEnd in_X7 co_X7_mayEnd) rfl rfl rfl (by decide +kernel) ⟨Nat.le_of_ble_eq_true rfl, Nat.le_of_ble_eq_true rfl⟩) (preV hK hP (pos := 0) (ci := 7) rfl rfl) rfl rfl hl.1 rfl (lv_room (Nat.le_of_ble_eq_true rfl)) dX7_join_3 ⟨Nat.zero_le _, Nat.zero_le _⟩) ?_
  refine lv_if_eq (tgt := 31) hx hb dX7_join_6 (by decide) (fun c_6 => ?_) (fun c_6 => ?_)
  · refine lv_bipush (v := (-2)) hx hb dX7_join_31 (by decide) ?_
    have hF : fX7_join σ p1 p2 p3 p4 = ((-2), σ) := by rw [fX7_join, if_pos c_6]
    have hP9 : va_P (dC, dI) vwCl (wM cI cJ q (fX7_join σ p1 p2 p3 p4).2) H := by rw [hF]; exact hP
    exact W.iret (v := (-2)) hx hb hr (fun t ht hW => ⟨(by rw [hF]), by rw [ht]; exact hP9, hS.F ht⟩) hS.2.2 dX7_join_33
  · refine lv_aload_n hx hb dX7_join_9 rfl (lv_at hl 0 rfl) ?_
    refine lv_iload_n hx hb dX7_join_10 rfl (lv_at hl 2 rfl) ?_
    refine lv_iload_n hx hb dX7_join_11 rfl (lv_at hl 3 rfl) ?_
    refine xc_i (va_runV (As := [.int p2, .int p3]) (rest := []) ⟨hx, hb, hml, hown, hts⟩ (c_X7_mayEnd l dC dI cI cJ q σ p2 p3 (by assumption)) (cwV 2 hts (gV ml_X7_108 im_X7_mayEnd se_X7_mayEnd in_X7 co_X7_mayEnd) rfl rfl rfl (by decide +kernel) ⟨Nat.le_of_ble_eq_true rfl, Nat.le_of_ble_eq_true rfl⟩) (preV hK hP (pos := 0) (ci := 7) rfl rfl) rfl rfl hl.1 rfl (lv_room (Nat.le_of_ble_eq_true rfl)) dX7_join_12 ⟨Nat.zero_le _, Nat.zero_le _⟩) ?_
    refine lv_if_eq (tgt := 31) hx hb dX7_join_15 (by decide) (fun c_15 => ?_) (fun c_15 => ?_)
    · refine lv_bipush (v := (-2)) hx hb dX7_join_31 (by decide) ?_
      have hF : fX7_join σ p1 p2 p3 p4 = ((-2), σ) := by rw [fX7_join, if_neg c_6, if_pos c_15]
      have hP9 : va_P (dC, dI) vwCl (wM cI cJ q (fX7_join σ p1 p2 p3 p4).2) H := by rw [hF]; exact hP
      exact W.iret (v := (-2)) hx hb hr (fun t ht hW => ⟨(by rw [hF]), by rw [ht]; exact hP9, hS.F ht⟩) hS.2.2 dX7_join_33
    · refine lv_iload_n hx hb dX7_join_18 rfl (lv_at hl 1 rfl) ?_
      refine lv_iload_n hx hb dX7_join_19 rfl (lv_at hl 2 rfl) ?_
      refine lv_icmp_eq (tgt := 31) hx hb dX7_join_20 (by decide) (fun c_20 => ?_) (fun c_20 => ?_)
      · refine lv_bipush (v := (-2)) hx hb dX7_join_31 (by decide) ?_
        have hF : fX7_join σ p1 p2 p3 p4 = ((-2), σ) := by rw [fX7_join, if_neg c_6, if_neg c_15, if_pos c_20]
        have hP9 : va_P (dC, dI) vwCl (wM cI cJ q (fX7_join σ p1 p2 p3 p4).2) H := by rw [hF]; exact hP
        exact W.iret (v := (-2)) hx hb hr (fun t ht hW => ⟨(by rw [hF]), by rw [ht]; exact hP9, hS.F ht⟩) hS.2.2 dX7_join_33
      · refine lv_iload hx hb dX7_join_23 (lv_at hl 4 rfl) ?_
        refine xc_i (va_runS (As := [.int p4]) (rest := []) ⟨hx, hb, hml, hown, hts⟩ (c_X7_isCode l dC dI cI cJ q σ p4) (va_cwS 1 hts (gS ml_X7_91 st_X7_isCode in_X7 co_X7_isCode) rfl rfl rfl (by decide +kernel) ⟨Nat.le_of_ble_eq_true rfl, Nat.le_of_ble_eq_true rfl⟩) (preS hK hP) rfl rfl hl.1 rfl (lv_room (Nat.le_of_ble_eq_true rfl)) dX7_join_25 ⟨Nat.zero_le _, Nat.zero_le _⟩) ?_
        refine lv_if_ne (tgt := 34) hx hb dX7_join_28 (by decide) (fun c_28 => ?_) (fun c_28 => ?_)
        · refine lv_aload_n hx hb dX7_join_34 rfl (lv_at hl 0 rfl) ?_
          refine lv_iload hx hb dX7_join_35 (lv_at hl 4 rfl) ?_
          refine lv_iload_n hx hb dX7_join_37 rfl (lv_at hl 3 rfl) ?_
          refine lv_iload_n hx hb dX7_join_38 rfl (lv_at hl 1 rfl) ?_
          refine lv_iload_n hx hb dX7_join_39 rfl (lv_at hl 2 rfl) ?_
          refine xc_i (va_runV (As := [.int p4, .int p3, .int p1, .int p2]) (rest := []) ⟨hx, hb, hml, hown, hts⟩ (c_X7_isTaken l dC dI cI cJ q σ p4 p3 p1 p2 (by assumption)) (cwV 4 hts (gV ml_X7_98 im_X7_isTaken se_X7_isTaken in_X7 co_X7_isTaken) rfl rfl rfl (by decide +kernel) ⟨Nat.le_of_ble_eq_true rfl, Nat.le_of_ble_eq_true rfl⟩) (preV hK hP (pos := 0) (ci := 7) rfl rfl) rfl rfl hl.1 rfl (lv_room (Nat.le_of_ble_eq_true rfl)) dX7_join_40 ⟨Nat.zero_le _, Nat.zero_le _⟩) ?_
          refine lv_if_eq (tgt := 49) hx hb dX7_join_43 (by decide) (fun c_43 => ?_) (fun c_43 => ?_)
          · refine lv_aload_n hx hb dX7_join_49 rfl (lv_at hl 0 rfl) ?_
            refine va_get (D := (dC, dI)) (ci := 7) (v := .int (σ.2.1 1)) (C := RX7) (T := TX7) (N := 26) hx hb hts inX7 hown hK hP 0 rfl rfl 1 (by decide) (hts _ fl_X7_77) (fun _ h9 => h9) rfl dX7_join_50 ?_
            refine lv_bipush (v := 40) hx hb dX7_join_53 (by decide) ?_
            refine lv_icmp_ne (tgt := 61) hx hb dX7_join_55 (by decide) (fun c_55 => ?_) (fun c_55 => ?_)
            · refine lv_aload_n hx hb dX7_join_61 rfl (lv_at hl 0 rfl) ?_
              refine lv_iload hx hb dX7_join_62 (lv_at hl 4 rfl) ?_
              refine lv_iload_n hx hb dX7_join_64 rfl (lv_at hl 3 rfl) ?_
              refine xw_c (va_runV (As := [.int p4, .int p3]) (rest := []) ⟨hx, hb, hml, hown, hts⟩ (c_X7_comes l dC dI cI cJ q σ p4 p3 (by assumption) (sz_ne hI.1 (by decide) c_55)) (cwV 2 hts (gV ml_X7_102 im_X7_comes se_X7_comes in_X7 co_X7_comes) rfl rfl rfl (by decide +kernel) ⟨Nat.le_of_ble_eq_true rfl, Nat.le_of_ble_eq_true rfl⟩) (preV hK hP (pos := 0) (ci := 7) rfl rfl) rfl rfl hl.1 rfl (lv_room (Nat.le_of_ble_eq_true rfl)) dX7_join_65 ⟨Nat.zero_le _, Nat.zero_le _⟩) hS (fun _ h => h) (fun H locs hP _ _ hS => ?_)
              have hP : va_P (dC, dI) vwCl (wM cI cJ q (fX7_comes σ p4 p3).2) H := hP
              refine W.eq (g2 := F0 m 68 ls [.int ((fX7_comes σ p4 p3).1)]) rfl ?_
              refine lv_istore (lv' := [(5, .int ((fX7_comes σ p4 p3).1)), (0, .ref (q 0)), (1, .int p1), (2, .int p2), (3, .int p3), (4, .int p4)]) hx hb dX7_join_68 hl (by decide) rfl (fun ls hl => ?_)
              refine lv_aload_n hx hb dX7_join_70 rfl (lv_at hl 1 rfl) ?_
              refine lv_iload_n hx hb dX7_join_71 rfl (lv_at hl 2 rfl) ?_
              refine lv_iload_n hx hb dX7_join_72 rfl (lv_at hl 4 rfl) ?_
              refine lv_iconst (v := 3) hx hb dX7_join_73 (by decide) ?_
              refine lv_iload hx hb dX7_join_74 (lv_at hl 0 rfl) ?_
              refine lv_iconst (v := 1) hx hb dX7_join_76 (by decide) ?_
              refine lv_iconst (v := 1) hx hb dX7_join_77 (by decide) ?_
              refine xw_c (va_runV (As := [.int p1, .int p3, .int 3, .int ((fX7_comes σ p4 p3).1), .int 1, .int 1]) (rest := []) ⟨hx, hb, hml, hown, hts⟩ (c_X7_goes l dC dI cI cJ q (fX7_comes σ p4 p3).2 p1 p3 3 ((fX7_comes σ p4 p3).1) 1 1 (by assumption) (mayEnd_in hI c_6)) (cwV 6 hts (gV ml_X7_112 im_X7_goes se_X7_goes in_X7 co_X7_goes) rfl rfl rfl (by decide +kernel) ⟨Nat.le_of_ble_eq_true rfl, Nat.le_of_ble_eq_true rfl⟩) (preV hK hP (pos := 0) (ci := 7) rfl rfl) rfl rfl hl.1 rfl (lv_room (Nat.le_of_ble_eq_true rfl)) dX7_join_78 ⟨Nat.zero_le _, Nat.zero_le _⟩) hS (fun _ h => h) (fun H locs hP _ _ hS => ?_)
              have hP : va_P (dC, dI) vwCl (wM cI cJ q (fX7_goes (fX7_comes σ p4 p3).2 p1 p3 3 ((fX7_comes σ p4 p3).1) 1 1)) H := hP
              refine W.eq (g2 := F0 m 81 ls []) rfl ?_
              refine lv_aload_n hx hb dX7_join_81 rfl (lv_at hl 1 rfl) ?_
              refine lv_iload_n hx hb dX7_join_82 rfl (lv_at hl 3 rfl) ?_
              refine lv_iload_n hx hb dX7_join_83 rfl (lv_at hl 4 rfl) ?_
              refine lv_iconst (v := 3) hx hb dX7_join_84 (by decide) ?_
              refine lv_iload hx hb dX7_join_85 (lv_at hl 0 rfl) ?_
              refine lv_iconst (v := 1) hx hb dX7_join_87 (by decide) ?_
              refine lv_iconst (v := 1) hx hb dX7_join_88 (by decide) ?_
              refine xw_c (va_runV (As := [.int p2, .int p3, .int 3, .int ((fX7_comes σ p4 p3).1), .int 1, .int 1]) (rest := []) ⟨hx, hb, hml, hown, hts⟩ (c_X7_goes l dC dI cI cJ q (fX7_goes (fX7_comes σ p4 p3).2 p1 p3 3 ((fX7_comes σ p4 p3).1) 1 1) p2 p3 3 ((fX7_comes σ p4 p3).1) 1 1 (by assumption) (mayEnd_in hI c_15)) (cwV 6 hts (gV ml_X7_112 im_X7_goes se_X7_goes in_X7 co_X7_goes) rfl rfl rfl (by decide +kernel) ⟨Nat.le_of_ble_eq_true rfl, Nat.le_of_ble_eq_true rfl⟩) (preV hK hP (pos := 0) (ci := 7) rfl rfl) rfl rfl hl.1 rfl (lv_room (Nat.le_of_ble_eq_true rfl)) dX7_join_89 ⟨Nat.zero_le _, Nat.zero_le _⟩) hS (fun _ h => h) (fun H locs hP _ _ hS => ?_)
              have hP : va_P (dC, dI) vwCl (wM cI cJ q (fX7_goes (fX7_goes (fX7_comes σ p4 p3).2 p1 p3 3 ((fX7_comes σ p4 p3).1) 1 1) p2 p3 3 ((fX7_comes σ p4 p3).1) 1 1)) H := hP
              refine W.eq (g2 := F0 m 92 ls []) rfl ?_
              refine lv_iload hx hb dX7_join_92 (lv_at hl 0 rfl) ?_
              have hF : fX7_join σ p1 p2 p3 p4 = ((fX7_comes σ p4 p3).1, (fX7_goes (fX7_goes (fX7_comes σ p4 p3).2 p1 p3 3 ((fX7_comes σ p4 p3).1) 1 1) p2 p3 3 ((fX7_comes σ p4 p3).1) 1 1)) := by rw [fX7_join, if_neg c_6, if_neg c_15, if_neg c_20, if_neg c_28, if_pos c_43, if_neg c_55]
              have hP9 : va_P (dC, dI) vwCl (wM cI cJ q (fX7_join σ p1 p2 p3 p4).2) H := by rw [hF]; exact hP
              exact W.iret (v := (fX7_comes σ p4 p3).1) hx hb hr (fun t ht hW => ⟨(by rw [hF]), by rw [ht]; exact hP9, hS.F ht⟩) hS.2.2 dX7_join_94
            · refine lv_bipush (v := (-4)) hx hb dX7_join_58 (by decide) ?_
              have hF : fX7_join σ p1 p2 p3 p4 = ((-4), σ) := by rw [fX7_join, if_neg c_6, if_neg c_15, if_neg c_20, if_neg c_28, if_pos c_43, if_pos c_55]
              have hP9 : va_P (dC, dI) vwCl (wM cI cJ q (fX7_join σ p1 p2 p3 p4).2) H := by rw [hF]; exact hP
              exact W.iret (v := (-4)) hx hb hr (fun t ht hW => ⟨(by rw [hF]), by rw [ht]; exact hP9, hS.F ht⟩) hS.2.2 dX7_join_60
          · refine lv_bipush (v := (-3)) hx hb dX7_join_46 (by decide) ?_
            have hF : fX7_join σ p1 p2 p3 p4 = ((-3), σ) := by rw [fX7_join, if_neg c_6, if_neg c_15, if_neg c_20, if_neg c_28, if_neg c_43]
            have hP9 : va_P (dC, dI) vwCl (wM cI cJ q (fX7_join σ p1 p2 p3 p4).2) H := by rw [hF]; exact hP
            exact W.iret (v := (-3)) hx hb hr (fun t ht hW => ⟨(by rw [hF]), by rw [ht]; exact hP9, hS.F ht⟩) hS.2.2 dX7_join_48
        · refine lv_bipush (v := (-2)) hx hb dX7_join_31 (by decide) ?_
          have hF : fX7_join σ p1 p2 p3 p4 = ((-2), σ) := by rw [fX7_join, if_neg c_6, if_neg c_15, if_neg c_20, if_pos c_28]
          have hP9 : va_P (dC, dI) vwCl (wM cI cJ q (fX7_join σ p1 p2 p3 p4).2) H := by rw [hF]; exact hP
          exact W.iret (v := (-2)) hx hb hr (fun t ht hW => ⟨(by rw [hF]), by rw [ht]; exact hP9, hS.F ht⟩) hS.2.2 dX7_join_33
