def flX7_living_3 (σ : St) (p1 : Int32) (p2 : Int32) (p3 : Int32) : Nat → Nat → Int32
  | 0, i => (-1)
  | k + 1, i => (if (σ.1 0 i) = p1 then (if (fX7_lives σ (nI i) p2 p3) = 0 then flX7_living_3 σ p1 p2 p3 k (i + 1)  else nI i) else flX7_living_3 σ p1 p2 p3 k (i + 1) )
def fX7_living (σ : St) (p1 : Int32) (p2 : Int32) (p3 : Int32) : Int32 :=
  flX7_living_3 σ p1 p2 p3 ((σ.2.1 1).toNatClampNeg) 0 
set_option maxHeartbeats 4000000 in
set_option maxRecDepth 100000 in
theorem c_X7_living (l : Launch) (dC : Nat → ClassId) (dI : Nat → Nat → Nat) (cI cJ : ClassId) (q : Nat → Nat) (σ : St) (p1 : Int32) (p2 : Int32) (p3 : Int32) (hI : IB σ) : Met l yX7_living (.code yX7_living cX7_living 5 (some .int) :: tb) { frames := 2, cells := 0, slots := 0, locals := 45 } (Pu (dC, dI) (tyC cI cJ) (wM cI cJ q σ) [.ref (q 0), .int p1, .int p2, .int p3]) (vp_Si (fun r => r = fX7_living σ p1 p2 p3)) 0 0 (fun _ => False) := by
  refine Met.ofW (cc := cX7_living) (maxL := 5) (ret := (some .int)) (by decide) rfl ?_
  intro p e s m args below meth c s₁ B hml hv
  obtain ⟨rfl, hP, hK⟩ := hv
  have hx := B.exec
  have hb := B.bytes
  have hr := B.returns
  have hts0 := atoms_spec (ws := .code yX7_living cX7_living 5 (some .int) :: tb) B.pre
  have hts : ∀ w ∈ tb, w.before _ s = true := fun w hw => hts0 w (List.mem_cons_of_mem _ hw)
  have hown : s.vm.findClass RX7 = some m.cls := findClass_of_methodNamed B.named
  have hlocks := B.notSynchronized
  have hl := lv_entry ([.ref (q 0), .int p1, .int p2, .int p3]) (n := 5) (Nat.le_of_ble_eq_true rfl)
  rw [lg_entry_eq]
  generalize (lg_sl ([.ref (q 0), .int p1, .int p2, .int p3]) ++ List.replicate (5 - (lg_sl ([.ref (q 0), .int p1, .int p2, .int p3])).length) Slot.unset).toArray = ls at hl ⊢
  have hl : lv_has ls 5 [(0, .ref (q 0)), (1, .int p1), (2, .int p2), (3, .int p3)] := hl
  refine lv_iconst (v := 0) hx hb dX7_living_0 (by decide) ?_
  refine lv_istore (lv' := [(4, .int 0), (0, .ref (q 0)), (1, .int p1), (2, .int p2), (3, .int p3)]) hx hb dX7_living_1 hl (by decide) rfl (fun ls hl => ?_)
  have hz : szI (σ.2.1 1) 40 := hI.1
  have hz2 := hz.2
  have loop_3 : ∀ (k i : Nat), i + k = (σ.2.1 1).toNatClampNeg → fX7_living σ p1 p2 p3 = flX7_living_3 σ p1 p2 p3 k i  → ∀ (ls : Array Slot), lv_has ls 5 [(0, .ref (q 0)), (1, .int p1), (2, .int p2), (3, .int p3), (4, .int (nI i))] → W p l e (headSpec (.code yX7_living cX7_living 5 (some .int) :: tb) { frames := 2, cells := 0, slots := 0, locals := 45 }).room s m (List.toArray [.ref (q 0), .int p1, .int p2, .int p3]) below meth c s.heap [] 0 0 (MQ below (vp_Si (fun r => r = fX7_living σ p1 p2 p3)) (List.toArray [.ref (q 0), .int p1, .int p2, .int p3]) s 0 0 (fun _ => False)) (F0 m 3 ls []) := by
    intro k
    induction k with
    | zero =>
      intro i  hik hE ls hl
      refine lv_iload hx hb dX7_living_3 (lv_at hl 4 rfl) ?_
      refine lv_aload_n hx hb dX7_living_5 rfl (lv_at hl 0 rfl) ?_
      refine va_get (D := (dC, dI)) (ci := 7) (v := .int (σ.2.1 1)) (C := RX7) (T := TX7) (N := 26) hx hb hts inX7 hown hK hP 0 rfl rfl 1 (by decide) (hts _ fl_X7_77) (fun _ h9 => h9) rfl dX7_living_6 ?_
      refine lv_icmp_ge (tgt := 43) hx hb dX7_living_9 (by decide) (fun c_9 => ?_) (fun c_9 => ?_)
      · refine lv_iconst (v := (-1)) hx hb dX7_living_43 (by decide) ?_
        exact W.iret (v := (-1)) hx hb hr (fun t ht hW => ⟨_, rfl, (by rw [hE, flX7_living_3]), ht⟩) (fun _ h => absurd h List.not_mem_nil) dX7_living_44
      · exact absurd (by rw [hz.1]; exact nI_le (by omega) (by omega)) c_9
    | succ k ih =>
      intro i  hik hE ls hl
      refine lv_iload hx hb dX7_living_3 (lv_at hl 4 rfl) ?_
      refine lv_aload_n hx hb dX7_living_5 rfl (lv_at hl 0 rfl) ?_
      refine va_get (D := (dC, dI)) (ci := 7) (v := .int (σ.2.1 1)) (C := RX7) (T := TX7) (N := 26) hx hb hts inX7 hown hK hP 0 rfl rfl 1 (by decide) (hts _ fl_X7_77) (fun _ h9 => h9) rfl dX7_living_6 ?_
      refine lv_icmp_ge (tgt := 43) hx hb dX7_living_9 (by decide) (fun c_9 => ?_) (fun c_9 => ?_)
      · exact absurd c_9 (by rw [hz.1]; exact nI_ge (by omega) (by omega))
      · refine lv_aload_n hx hb dX7_living_12 rfl (lv_at hl 0 rfl) ?_
        refine va_get (D := (dC, dI)) (ci := 7) (v := .ref (q 1)) (C := RX7) (T := TX7) (N := 26) hx hb hts inX7 hown hK hP 0 rfl rfl 5 (by decide) (hts _ fl_X7_7) (fun _ h9 => h9) rfl dX7_living_13 ?_
        refine lv_iload hx hb dX7_living_16 (lv_at hl 4 rfl) ?_
        refine xa_ild hx hb hK hP 1 0 rfl rfl (by omega) (by decide) dX7_living_18 ?_
        refine lv_iload_n hx hb dX7_living_19 rfl (lv_at hl 1 rfl) ?_
        refine lv_icmp_ne (tgt := 37) hx hb dX7_living_20 (by decide) (fun c_20 => ?_) (fun c_20 => ?_)
        · refine lv_iinc (v := nI (i + 1)) (lv' := [(4, .int (nI (i + 1))), (0, .ref (q 0)), (1, .int p1), (2, .int p2), (3, .int p3)]) hx hb dX7_living_37 hl (k := 4) rfl (nI_1 i) (by decide) rfl (fun ls hl => ?_)
          refine lv_goto (tgt := 3) hx hb dX7_living_40 (by decide) ?_
          exact ih (i + 1)  (by omega) (by rw [hE, flX7_living_3, if_neg c_20]) ls (lv_sub hl [1, 2, 3, 4, 0] rfl)
        · refine lv_aload_n hx hb dX7_living_23 rfl (lv_at hl 0 rfl) ?_
          refine lv_iload hx hb dX7_living_24 (lv_at hl 4 rfl) ?_
          refine lv_iload_n hx hb dX7_living_26 rfl (lv_at hl 2 rfl) ?_
          refine lv_iload_n hx hb dX7_living_27 rfl (lv_at hl 3 rfl) ?_
          refine xc_i (va_runV (As := [.int (nI i), .int p2, .int p3]) (rest := []) ⟨hx, hb, hml, hown, hts⟩ (c_X7_lives l dC dI cI cJ q σ (nI i) p2 p3 (vp_in_nI (by omega) (by decide))) (cwV 3 hts (gV ml_X7_88 im_X7_lives se_X7_lives in_X7 co_X7_lives) rfl rfl rfl (by decide +kernel) ⟨Nat.le_of_ble_eq_true rfl, Nat.le_of_ble_eq_true rfl⟩) (preV hK hP (pos := 0) (ci := 7) rfl rfl) rfl rfl hl.1 rfl (lv_room (Nat.le_of_ble_eq_true rfl)) dX7_living_28 ⟨Nat.zero_le _, Nat.zero_le _⟩) ?_
          refine lv_if_eq (tgt := 37) hx hb dX7_living_31 (by decide) (fun c_31 => ?_) (fun c_31 => ?_)
          · refine lv_iinc (v := nI (i + 1)) (lv' := [(4, .int (nI (i + 1))), (0, .ref (q 0)), (1, .int p1), (2, .int p2), (3, .int p3)]) hx hb dX7_living_37 hl (k := 4) rfl (nI_1 i) (by decide) rfl (fun ls hl => ?_)
            refine lv_goto (tgt := 3) hx hb dX7_living_40 (by decide) ?_
            exact ih (i + 1)  (by omega) (by rw [hE, flX7_living_3, if_pos c_20, if_pos c_31]) ls (lv_sub hl [1, 2, 3, 4, 0] rfl)
          · refine lv_iload hx hb dX7_living_34 (lv_at hl 4 rfl) ?_
            exact W.iret (v := nI i) hx hb hr (fun t ht hW => ⟨_, rfl, (by rw [hE, flX7_living_3, if_pos c_20, if_neg c_31]), ht⟩) (fun _ h => absurd h List.not_mem_nil) dX7_living_36
  exact loop_3 ((σ.2.1 1).toNatClampNeg) 0  (by rw [Nat.zero_add]) (by rw [fX7_living]) ls (lv_sub hl [1, 2, 3, 4, 0] rfl)

theorem livingl_in {σ : St} {a d e : Int32} : ∀ (k i : Nat), (flX7_living_3 σ a d e k i = -1) ∨ ∃ j, j < i + k ∧ flX7_living_3 σ a d e k i = nI j := by
  intro k
  induction k with
  | zero => intro i; exact Or.inl rfl
  | succ k ih =>
    intro i
    rw [flX7_living_3]
    repeat' split
    all_goals first
      | exact Or.inr ⟨i, by omega, rfl⟩
      | (rcases ih (i + 1) with h | ⟨j, h1, h2⟩
         · exact Or.inl h
         · exact Or.inr ⟨j, by omega, h2⟩)
theorem living_in {σ : St} {a d e : Int32} (hI : IB σ) (c : ¬ fX7_living σ a d e = (-1)) : vp_in (fX7_living σ a d e) (σ.2.1 1).toNatClampNeg := by
  have h2 := hI.1.2
  unfold fX7_living at c ⊢
  rcases livingl_in (σ := σ) (a := a) (d := d) (e := e) (σ.2.1 1).toNatClampNeg 0 with h | ⟨j, h1, h3⟩
  · exact absurd h c
  · rw [h3]
    exact vp_in_nI (by omega) (by omega)

set_option maxHeartbeats 4000000 in
set_option maxRecDepth 100000 in
theorem c_X7_isFact (l : Launch) (dC : Nat → ClassId) (dI : Nat → Nat → Nat) (cI cJ : ClassId) (q : Nat → Nat) (σ : St) (p1 : Int32) (p2 : Int32) (hI : IB σ) (hR : vp_in p1 (σ.2.1 2).toNatClampNeg) : Met l yX7_isFact (.code yX7_isFact cX7_isFact 3 (some .boolean) :: tb) { frames := 1, cells := 0, slots := 0, locals := 23 } (Pu (dC, dI) (tyC cI cJ) (wM cI cJ q σ) [.ref (q 0), .int p1, .int p2]) (vp_Si (fun r => r = fX7_isKnown σ (σ.1 18 p1.toNatClampNeg) (σ.1 19 p1.toNatClampNeg) p2)) 0 0 (fun _ => False) := by
  refine Met.ofW (cc := cX7_isFact) (maxL := 3) (ret := (some .boolean)) (by decide) rfl ?_
  intro p e s m args below meth c s₁ B hml hv
  obtain ⟨rfl, hP, hK⟩ := hv
  have hx := B.exec
  have hb := B.bytes
  have hr := B.returns
  have hts0 := atoms_spec (ws := .code yX7_isFact cX7_isFact 3 (some .boolean) :: tb) B.pre
  have hts : ∀ w ∈ tb, w.before _ s = true := fun w hw => hts0 w (List.mem_cons_of_mem _ hw)
  have hown : s.vm.findClass RX7 = some m.cls := findClass_of_methodNamed B.named
  have hlocks := B.notSynchronized
  have hl := lv_entry ([.ref (q 0), .int p1, .int p2]) (n := 3) (Nat.le_of_ble_eq_true rfl)
  rw [lg_entry_eq]
  generalize (lg_sl ([.ref (q 0), .int p1, .int p2]) ++ List.replicate (3 - (lg_sl ([.ref (q 0), .int p1, .int p2])).length) Slot.unset).toArray = ls at hl ⊢
  have hl : lv_has ls 3 [(0, .ref (q 0)), (1, .int p1), (2, .int p2)] := hl
  refine lv_aload_n hx hb dX7_isFact_0 rfl (lv_at hl 0 rfl) ?_
  refine lv_aload_n hx hb dX7_isFact_1 rfl (lv_at hl 0 rfl) ?_
  refine va_get (D := (dC, dI)) (ci := 7) (v := .ref (q 13)) (C := RX7) (T := TX7) (N := 26) hx hb hts inX7 hown hK hP 0 rfl rfl 17 (by decide) (hts _ fl_X7_46) (fun _ h9 => h9) rfl dX7_isFact_2 ?_
  refine lv_iload_n hx hb dX7_isFact_5 rfl (lv_at hl 1 rfl) ?_
  refine va_iald hx hb hK hP 13 0 rfl rfl (vp_in_mono hR hI.2.1.2) dX7_isFact_6 ?_
  refine lv_aload_n hx hb dX7_isFact_7 rfl (lv_at hl 0 rfl) ?_
  refine va_get (D := (dC, dI)) (ci := 7) (v := .ref (q 14)) (C := RX7) (T := TX7) (N := 26) hx hb hts inX7 hown hK hP 0 rfl rfl 18 (by decide) (hts _ fl_X7_49) (fun _ h9 => h9) rfl dX7_isFact_8 ?_
  refine lv_iload_n hx hb dX7_isFact_11 rfl (lv_at hl 1 rfl) ?_
  refine va_iald hx hb hK hP 14 0 rfl rfl (vp_in_mono hR hI.2.1.2) dX7_isFact_12 ?_
  refine lv_iload_n hx hb dX7_isFact_13 rfl (lv_at hl 2 rfl) ?_
  refine xc_i (va_runV (As := [.int (σ.1 18 p1.toNatClampNeg), .int (σ.1 19 p1.toNatClampNeg), .int p2]) (rest := []) ⟨hx, hb, hml, hown, hts⟩ (c_X7_isKnown l dC dI cI cJ q σ (σ.1 18 p1.toNatClampNeg) (σ.1 19 p1.toNatClampNeg) p2 (hI.2.2.2.2.2 _ (vp_in_lt hR))) (cwV 3 hts (gV ml_X7_116 im_X7_isKnown se_X7_isKnown in_X7 co_X7_isKnown) rfl rfl rfl (by decide +kernel) ⟨Nat.le_of_ble_eq_true rfl, Nat.le_of_ble_eq_true rfl⟩) (preV hK hP (pos := 0) (ci := 7) rfl rfl) rfl rfl hl.1 rfl (lv_room (Nat.le_of_ble_eq_true rfl)) dX7_isFact_14 ⟨Nat.zero_le _, Nat.zero_le _⟩) ?_
  exact W.zret (v := fX7_isKnown σ (σ.1 18 p1.toNatClampNeg) (σ.1 19 p1.toNatClampNeg) p2) hx hb hr (nb_of (b_X7_isKnown σ _ _ p2)) (fun t ht hW => ⟨_, rfl, rfl, ht⟩) (fun _ h => absurd h List.not_mem_nil) dX7_isFact_17

set_option maxHeartbeats 4000000 in
set_option maxRecDepth 100000 in
theorem c_X7_thingOf (l : Launch) (dC : Nat → ClassId) (dI : Nat → Nat → Nat) (cI cJ : ClassId) (q : Nat → Nat) (σ : St) (p1 : Int32) (p2 : Int32) (hI : IB σ) (hR : vp_in p1 200) : Met l yX7_thingOf (.code yX7_thingOf cX7_thingOf 3 (some .int) :: tb) { frames := 3, cells := 0, slots := 0, locals := 69 } (Pu (dC, dI) (tyC cI cJ) (wM cI cJ q σ) [.ref (q 0), .int p1, .int p2]) (vp_Si (fun r => r = fX7_living σ (σ.1 15 p1.toNatClampNeg) (σ.1 16 p1.toNatClampNeg) p2)) 0 0 (fun _ => False) := by
  refine Met.ofW (cc := cX7_thingOf) (maxL := 3) (ret := (some .int)) (by decide) rfl ?_
  intro p e s m args below meth c s₁ B hml hv
  obtain ⟨rfl, hP, hK⟩ := hv
  have hx := B.exec
  have hb := B.bytes
  have hr := B.returns
  have hts0 := atoms_spec (ws := .code yX7_thingOf cX7_thingOf 3 (some .int) :: tb) B.pre
  have hts : ∀ w ∈ tb, w.before _ s = true := fun w hw => hts0 w (List.mem_cons_of_mem _ hw)
  have hown : s.vm.findClass RX7 = some m.cls := findClass_of_methodNamed B.named
  have hlocks := B.notSynchronized
  have hl := lv_entry ([.ref (q 0), .int p1, .int p2]) (n := 3) (Nat.le_of_ble_eq_true rfl)
  rw [lg_entry_eq]
  generalize (lg_sl ([.ref (q 0), .int p1, .int p2]) ++ List.replicate (3 - (lg_sl ([.ref (q 0), .int p1, .int p2])).length) Slot.unset).toArray = ls at hl ⊢
  have hl : lv_has ls 3 [(0, .ref (q 0)), (1, .int p1), (2, .int p2)] := hl
  refine lv_aload_n hx hb dX7_thingOf_0 rfl (lv_at hl 0 rfl) ?_
  refine lv_aload_n hx hb dX7_thingOf_1 rfl (lv_at hl 0 rfl) ?_
  refine va_get (D := (dC, dI)) (ci := 7) (v := .ref (q 10)) (C := RX7) (T := TX7) (N := 26) hx hb hts inX7 hown hK hP 0 rfl rfl 14 (by decide) (hts _ fl_X7_37) (fun _ h9 => h9) rfl dX7_thingOf_2 ?_
  refine lv_iload_n hx hb dX7_thingOf_5 rfl (lv_at hl 1 rfl) ?_
  refine va_iald hx hb hK hP 10 0 rfl rfl (by assumption) dX7_thingOf_6 ?_
  refine lv_aload_n hx hb dX7_thingOf_7 rfl (lv_at hl 0 rfl) ?_
  refine va_get (D := (dC, dI)) (ci := 7) (v := .ref (q 11)) (C := RX7) (T := TX7) (N := 26) hx hb hts inX7 hown hK hP 0 rfl rfl 15 (by decide) (hts _ fl_X7_40) (fun _ h9 => h9) rfl dX7_thingOf_8 ?_
  refine lv_iload_n hx hb dX7_thingOf_11 rfl (lv_at hl 1 rfl) ?_
  refine va_iald hx hb hK hP 11 0 rfl rfl (by assumption) dX7_thingOf_12 ?_
  refine lv_iload_n hx hb dX7_thingOf_13 rfl (lv_at hl 2 rfl) ?_
  refine xc_i (va_runV (As := [.int (σ.1 15 p1.toNatClampNeg), .int (σ.1 16 p1.toNatClampNeg), .int p2]) (rest := []) ⟨hx, hb, hml, hown, hts⟩ (c_X7_living l dC dI cI cJ q σ (σ.1 15 p1.toNatClampNeg) (σ.1 16 p1.toNatClampNeg) p2 (by assumption)) (cwV 3 hts (gV ml_X7_145 im_X7_living se_X7_living in_X7 co_X7_living) rfl rfl rfl (by decide +kernel) ⟨Nat.le_of_ble_eq_true rfl, Nat.le_of_ble_eq_true rfl⟩) (preV hK hP (pos := 0) (ci := 7) rfl rfl) rfl rfl hl.1 rfl (lv_room (Nat.le_of_ble_eq_true rfl)) dX7_thingOf_14 ⟨Nat.zero_le _, Nat.zero_le _⟩) ?_
  exact W.iret (v := fX7_living σ (σ.1 15 p1.toNatClampNeg) (σ.1 16 p1.toNatClampNeg) p2) hx hb hr (fun t ht hW => ⟨_, rfl, rfl, ht⟩) (fun _ h => absurd h List.not_mem_nil) dX7_thingOf_17

def fX7_hangs (σ : St) (p1 : Int32) (p2 : Int32) : Int32 :=
  (if (fX7_isIn σ p1 0 ((σ.2.1 2) - 1)) = 0 then (-2) else (if (fX7_isIn σ p2 0 2000) = 0 then (-2) else (if (fX7_isKnown σ (σ.1 18 p1.toNatClampNeg) (σ.1 19 p1.toNatClampNeg) p2) = 0 then (-2) else fX7_living σ (σ.1 15 p1.toNatClampNeg) (σ.1 16 p1.toNatClampNeg) p2)))
set_option maxHeartbeats 4000000 in
set_option maxRecDepth 100000 in
theorem c_X7_hangs (l : Launch) (dC : Nat → ClassId) (dI : Nat → Nat → Nat) (cI cJ : ClassId) (q : Nat → Nat) (σ : St) (p1 : Int32) (p2 : Int32) (hI : IB σ) : Met l yX7_hangs (.code yX7_hangs cX7_hangs 3 (some .int) :: tb) { frames := 4, cells := 0, slots := 0, locals := 91 } (Pu (dC, dI) (tyC cI cJ) (wM cI cJ q σ) [.ref (q 0), .int p1, .int p2]) (vp_Si (fun r => r = fX7_hangs σ p1 p2)) 0 0 (fun _ => False) := by
  refine Met.ofW (cc := cX7_hangs) (maxL := 3) (ret := (some .int)) (by decide) rfl ?_
  intro p e s m args below meth c s₁ B hml hv
  obtain ⟨rfl, hP, hK⟩ := hv
  have hx := B.exec
  have hb := B.bytes
  have hr := B.returns
  have hts0 := atoms_spec (ws := .code yX7_hangs cX7_hangs 3 (some .int) :: tb) B.pre
  have hts : ∀ w ∈ tb, w.before _ s = true := fun w hw => hts0 w (List.mem_cons_of_mem _ hw)
  have hown : s.vm.findClass RX7 = some m.cls := findClass_of_methodNamed B.named
  have hlocks := B.notSynchronized
  have hl := lv_entry ([.ref (q 0), .int p1, .int p2]) (n := 3) (Nat.le_of_ble_eq_true rfl)
  rw [lg_entry_eq]
  generalize (lg_sl ([.ref (q 0), .int p1, .int p2]) ++ List.replicate (3 - (lg_sl ([.ref (q 0), .int p1, .int p2])).length) Slot.unset).toArray = ls at hl ⊢
  have hl : lv_has ls 3 [(0, .ref (q 0)), (1, .int p1), (2, .int p2)] := hl
  refine lv_iload_n hx hb dX7_hangs_0 rfl (lv_at hl 1 rfl) ?_
  refine lv_iconst (v := 0) hx hb dX7_hangs_1 (by decide) ?_
  refine lv_aload_n hx hb dX7_hangs_2 rfl (lv_at hl 0 rfl) ?_
  refine va_get (D := (dC, dI)) (ci := 7) (v := .int (σ.2.1 2)) (C := RX7) (T := TX7) (N := 26) hx hb hts inX7 hown hK hP 0 rfl rfl 2 (by decide) (hts _ fl_X7_142) (fun _ h9 => h9) rfl dX7_hangs_3 ?_
  refine lv_iconst (v := 1) hx hb dX7_hangs_6 (by decide) ?_
  refine lv_isub hx hb dX7_hangs_7 ?_
  refine xc_i (va_runS (As := [.int p1, .int 0, .int ((σ.2.1 2) - 1)]) (rest := []) ⟨hx, hb, hml, hown, hts⟩ (c_X7_isIn l dC dI cI cJ q σ p1 0 ((σ.2.1 2) - 1)) (va_cwS 3 hts (gS ml_X7_73 st_X7_isIn in_X7 co_X7_isIn) rfl rfl rfl (by decide +kernel) ⟨Nat.le_of_ble_eq_true rfl, Nat.le_of_ble_eq_true rfl⟩) (preS hK hP) rfl rfl hl.1 rfl (lv_room (Nat.le_of_ble_eq_true rfl)) dX7_hangs_8 ⟨Nat.zero_le _, Nat.zero_le _⟩) ?_
  refine lv_if_eq (tgt := 39) hx hb dX7_hangs_11 (by decide) (fun c_11 => ?_) (fun c_11 => ?_)
  · refine lv_bipush (v := (-2)) hx hb dX7_hangs_39 (by decide) ?_
    exact W.iret (v := (-2)) hx hb hr (fun t ht hW => ⟨_, rfl, (by rw [fX7_hangs, if_pos c_11]), ht⟩) (fun _ h => absurd h List.not_mem_nil) dX7_hangs_41
  · refine lv_iload_n hx hb dX7_hangs_14 rfl (lv_at hl 2 rfl) ?_
    refine xc_i (va_runS (As := [.int p2]) (rest := []) ⟨hx, hb, hml, hown, hts⟩ (c_X7_isDay l dC dI cI cJ q σ p2) (va_cwS 1 hts (gS ml_X7_95 st_X7_isDay in_X7 co_X7_isDay) rfl rfl rfl (by decide +kernel) ⟨Nat.le_of_ble_eq_true rfl, Nat.le_of_ble_eq_true rfl⟩) (preS hK hP) rfl rfl hl.1 rfl (lv_room (Nat.le_of_ble_eq_true rfl)) dX7_hangs_15 ⟨Nat.zero_le _, Nat.zero_le _⟩) ?_
    refine lv_if_eq (tgt := 39) hx hb dX7_hangs_18 (by decide) (fun c_18 => ?_) (fun c_18 => ?_)
    · refine lv_bipush (v := (-2)) hx hb dX7_hangs_39 (by decide) ?_
      exact W.iret (v := (-2)) hx hb hr (fun t ht hW => ⟨_, rfl, (by rw [fX7_hangs, if_neg c_11, if_pos c_18]), ht⟩) (fun _ h => absurd h List.not_mem_nil) dX7_hangs_41
    · refine lv_aload_n hx hb dX7_hangs_21 rfl (lv_at hl 0 rfl) ?_
      refine lv_iload_n hx hb dX7_hangs_22 rfl (lv_at hl 1 rfl) ?_
      refine lv_iload_n hx hb dX7_hangs_23 rfl (lv_at hl 2 rfl) ?_
      refine xc_i (va_runV (As := [.int p1, .int p2]) (rest := []) ⟨hx, hb, hml, hown, hts⟩ (c_X7_isFact l dC dI cI cJ q σ p1 p2 (by assumption) (isIn_in hI.2.1 (by decide) c_11)) (cwV 2 hts (gV ml_X7_149 im_X7_isFact se_X7_isFact in_X7 co_X7_isFact) rfl rfl rfl (by decide +kernel) ⟨Nat.le_of_ble_eq_true rfl, Nat.le_of_ble_eq_true rfl⟩) (preV hK hP (pos := 0) (ci := 7) rfl rfl) rfl rfl hl.1 rfl (lv_room (Nat.le_of_ble_eq_true rfl)) dX7_hangs_24 ⟨Nat.zero_le _, Nat.zero_le _⟩) ?_
      refine lv_if_eq (tgt := 39) hx hb dX7_hangs_27 (by decide) (fun c_27 => ?_) (fun c_27 => ?_)
      · refine lv_bipush (v := (-2)) hx hb dX7_hangs_39 (by decide) ?_
        exact W.iret (v := (-2)) hx hb hr (fun t ht hW => ⟨_, rfl, (by rw [fX7_hangs, if_neg c_11, if_neg c_18, if_pos c_27]), ht⟩) (fun _ h => absurd h List.not_mem_nil) dX7_hangs_41
      · refine lv_aload_n hx hb dX7_hangs_30 rfl (lv_at hl 0 rfl) ?_
        refine lv_iload_n hx hb dX7_hangs_31 rfl (lv_at hl 1 rfl) ?_
        refine lv_iload_n hx hb dX7_hangs_32 rfl (lv_at hl 2 rfl) ?_
        refine xc_i (va_runV (As := [.int p1, .int p2]) (rest := []) ⟨hx, hb, hml, hown, hts⟩ (c_X7_thingOf l dC dI cI cJ q σ p1 p2 (by assumption) (vp_in_mono (isIn_in hI.2.1 (by decide) c_11) hI.2.1.2)) (cwV 2 hts (gV ml_X7_152 im_X7_thingOf se_X7_thingOf in_X7 co_X7_thingOf) rfl rfl rfl (by decide +kernel) ⟨Nat.le_of_ble_eq_true rfl, Nat.le_of_ble_eq_true rfl⟩) (preV hK hP (pos := 0) (ci := 7) rfl rfl) rfl rfl hl.1 rfl (lv_room (Nat.le_of_ble_eq_true rfl)) dX7_hangs_33 ⟨Nat.zero_le _, Nat.zero_le _⟩) ?_
        refine lv_goto (tgt := 41) hx hb dX7_hangs_36 (by decide) ?_
        exact W.iret (v := fX7_living σ (σ.1 15 p1.toNatClampNeg) (σ.1 16 p1.toNatClampNeg) p2) hx hb hr (fun t ht hW => ⟨_, rfl, (by rw [fX7_hangs, if_neg c_11, if_neg c_18, if_neg c_27]), ht⟩) (fun _ h => absurd h List.not_mem_nil) dX7_hangs_41

def fX7_find (σ : St) (p1 : Int32) (p2 : Int32) (p3 : Int32) : Int32 :=
  (if (fX7_isIn σ p2 0 2000) = 0 then (-1) else (if (fX7_isIn σ p3 0 2000) = 0 then (-1) else fX7_living σ p1 p2 p3))
set_option maxHeartbeats 4000000 in
set_option maxRecDepth 100000 in
theorem c_X7_find (l : Launch) (dC : Nat → ClassId) (dI : Nat → Nat → Nat) (cI cJ : ClassId) (q : Nat → Nat) (σ : St) (p1 : Int32) (p2 : Int32) (p3 : Int32) (hI : IB σ) : Met l yX7_find (.code yX7_find cX7_find 4 (some .int) :: tb) { frames := 3, cells := 0, slots := 0, locals := 69 } (Pu (dC, dI) (tyC cI cJ) (wM cI cJ q σ) [.ref (q 0), .int p1, .int p2, .int p3]) (vp_Si (fun r => r = fX7_find σ p1 p2 p3)) 0 0 (fun _ => False) := by
  refine Met.ofW (cc := cX7_find) (maxL := 4) (ret := (some .int)) (by decide) rfl ?_
  intro p e s m args below meth c s₁ B hml hv
  obtain ⟨rfl, hP, hK⟩ := hv
  have hx := B.exec
  have hb := B.bytes
  have hr := B.returns
  have hts0 := atoms_spec (ws := .code yX7_find cX7_find 4 (some .int) :: tb) B.pre
  have hts : ∀ w ∈ tb, w.before _ s = true := fun w hw => hts0 w (List.mem_cons_of_mem _ hw)
  have hown : s.vm.findClass RX7 = some m.cls := findClass_of_methodNamed B.named
  have hlocks := B.notSynchronized
  have hl := lv_entry ([.ref (q 0), .int p1, .int p2, .int p3]) (n := 4) (Nat.le_of_ble_eq_true rfl)
  rw [lg_entry_eq]
  generalize (lg_sl ([.ref (q 0), .int p1, .int p2, .int p3]) ++ List.replicate (4 - (lg_sl ([.ref (q 0), .int p1, .int p2, .int p3])).length) Slot.unset).toArray = ls at hl ⊢
  have hl : lv_has ls 4 [(0, .ref (q 0)), (1, .int p1), (2, .int p2), (3, .int p3)] := hl
  refine lv_iload_n hx hb dX7_find_0 rfl (lv_at hl 2 rfl) ?_
  refine xc_i (va_runS (As := [.int p2]) (rest := []) ⟨hx, hb, hml, hown, hts⟩ (c_X7_isDay l dC dI cI cJ q σ p2) (va_cwS 1 hts (gS ml_X7_95 st_X7_isDay in_X7 co_X7_isDay) rfl rfl rfl (by decide +kernel) ⟨Nat.le_of_ble_eq_true rfl, Nat.le_of_ble_eq_true rfl⟩) (preS hK hP) rfl rfl hl.1 rfl (lv_room (Nat.le_of_ble_eq_true rfl)) dX7_find_1 ⟨Nat.zero_le _, Nat.zero_le _⟩) ?_
  refine lv_if_eq (tgt := 24) hx hb dX7_find_4 (by decide) (fun c_4 => ?_) (fun c_4 => ?_)
  · refine lv_iconst (v := (-1)) hx hb dX7_find_24 (by decide) ?_
    exact W.iret (v := (-1)) hx hb hr (fun t ht hW => ⟨_, rfl, (by rw [fX7_find, if_pos c_4]), ht⟩) (fun _ h => absurd h List.not_mem_nil) dX7_find_25
  · refine lv_iload_n hx hb dX7_find_7 rfl (lv_at hl 3 rfl) ?_
    refine xc_i (va_runS (As := [.int p3]) (rest := []) ⟨hx, hb, hml, hown, hts⟩ (c_X7_isDay l dC dI cI cJ q σ p3) (va_cwS 1 hts (gS ml_X7_95 st_X7_isDay in_X7 co_X7_isDay) rfl rfl rfl (by decide +kernel) ⟨Nat.le_of_ble_eq_true rfl, Nat.le_of_ble_eq_true rfl⟩) (preS hK hP) rfl rfl hl.1 rfl (lv_room (Nat.le_of_ble_eq_true rfl)) dX7_find_8 ⟨Nat.zero_le _, Nat.zero_le _⟩) ?_
    refine lv_if_eq (tgt := 24) hx hb dX7_find_11 (by decide) (fun c_11 => ?_) (fun c_11 => ?_)
    · refine lv_iconst (v := (-1)) hx hb dX7_find_24 (by decide) ?_
      exact W.iret (v := (-1)) hx hb hr (fun t ht hW => ⟨_, rfl, (by rw [fX7_find, if_neg c_4, if_pos c_11]), ht⟩) (fun _ h => absurd h List.not_mem_nil) dX7_find_25
    · refine lv_aload_n hx hb dX7_find_14 rfl (lv_at hl 0 rfl) ?_
      refine lv_iload_n hx hb dX7_find_15 rfl (lv_at hl 1 rfl) ?_
      refine lv_iload_n hx hb dX7_find_16 rfl (lv_at hl 2 rfl) ?_
      refine lv_iload_n hx hb dX7_find_17 rfl (lv_at hl 3 rfl) ?_
      refine xc_i (va_runV (As := [.int p1, .int p2, .int p3]) (rest := []) ⟨hx, hb, hml, hown, hts⟩ (c_X7_living l dC dI cI cJ q σ p1 p2 p3 (by assumption)) (cwV 3 hts (gV ml_X7_145 im_X7_living se_X7_living in_X7 co_X7_living) rfl rfl rfl (by decide +kernel) ⟨Nat.le_of_ble_eq_true rfl, Nat.le_of_ble_eq_true rfl⟩) (preV hK hP (pos := 0) (ci := 7) rfl rfl) rfl rfl hl.1 rfl (lv_room (Nat.le_of_ble_eq_true rfl)) dX7_find_18 ⟨Nat.zero_le _, Nat.zero_le _⟩) ?_
      refine lv_goto (tgt := 25) hx hb dX7_find_21 (by decide) ?_
      exact W.iret (v := fX7_living σ p1 p2 p3) hx hb hr (fun t ht hW => ⟨_, rfl, (by rw [fX7_find, if_neg c_4, if_neg c_11]), ht⟩) (fun _ h => absurd h List.not_mem_nil) dX7_find_25

def fX7_isAsked (σ : St) (p1 : Int32) (p2 : Int32) (p3 : Int32) : Int32 :=
  (if (fX7_isIn σ p1 0 3) = 0 then 0 else (if (fX7_isIn σ p2 0 100) = 0 then 0 else (if (fX7_isIn σ p3 0 2000) = 0 then 0 else 1)))
set_option maxHeartbeats 4000000 in
set_option maxRecDepth 100000 in
theorem c_X7_isAsked (l : Launch) (dC : Nat → ClassId) (dI : Nat → Nat → Nat) (cI cJ : ClassId) (q : Nat → Nat) (σ : St) (p1 : Int32) (p2 : Int32) (p3 : Int32) : Met l yX7_isAsked (.code yX7_isAsked cX7_isAsked 4 (some .boolean) :: tb) { frames := 2, cells := 0, slots := 0, locals := 42 } (Pu (dC, dI) (tyC cI cJ) (wM cI cJ q σ) [.ref (q 0), .int p1, .int p2, .int p3]) (vp_Si (fun r => r = fX7_isAsked σ p1 p2 p3)) 0 0 (fun _ => False) := by
  refine Met.ofW (cc := cX7_isAsked) (maxL := 4) (ret := (some .boolean)) (by decide) rfl ?_
  intro p e s m args below meth c s₁ B hml hv
  obtain ⟨rfl, hP, hK⟩ := hv
  have hx := B.exec
  have hb := B.bytes
  have hr := B.returns
  have hts0 := atoms_spec (ws := .code yX7_isAsked cX7_isAsked 4 (some .boolean) :: tb) B.pre
  have hts : ∀ w ∈ tb, w.before _ s = true := fun w hw => hts0 w (List.mem_cons_of_mem _ hw)
  have hown : s.vm.findClass RX7 = some m.cls := findClass_of_methodNamed B.named
  have hlocks := B.notSynchronized
  have hl := lv_entry ([.ref (q 0), .int p1, .int p2, .int p3]) (n := 4) (Nat.le_of_ble_eq_true rfl)
  rw [lg_entry_eq]
  generalize (lg_sl ([.ref (q 0), .int p1, .int p2, .int p3]) ++ List.replicate (4 - (lg_sl ([.ref (q 0), .int p1, .int p2, .int p3])).length) Slot.unset).toArray = ls at hl ⊢
  have hl : lv_has ls 4 [(0, .ref (q 0)), (1, .int p1), (2, .int p2), (3, .int p3)] := hl
  refine lv_iload_n hx hb dX7_isAsked_0 rfl (lv_at hl 1 rfl) ?_
  refine xc_i (va_runS (As := [.int p1]) (rest := []) ⟨hx, hb, hml, hown, hts⟩ (c_X7_isMark l dC dI cI cJ q σ p1) (va_cwS 1 hts (gS ml_X7_119 st_X7_isMark in_X7 co_X7_isMark) rfl rfl rfl (by decide +kernel) ⟨Nat.le_of_ble_eq_true rfl, Nat.le_of_ble_eq_true rfl⟩) (preS hK hP) rfl rfl hl.1 rfl (lv_room (Nat.le_of_ble_eq_true rfl)) dX7_isAsked_1 ⟨Nat.zero_le _, Nat.zero_le _⟩) ?_
  refine lv_if_eq (tgt := 28) hx hb dX7_isAsked_4 (by decide) (fun c_4 => ?_) (fun c_4 => ?_)
  · refine lv_iconst (v := 0) hx hb dX7_isAsked_28 (by decide) ?_
    exact W.zret (v := 0) hx hb hr narrow_b0 (fun t ht hW => ⟨_, rfl, (by rw [fX7_isAsked, if_pos c_4]), ht⟩) (fun _ h => absurd h List.not_mem_nil) dX7_isAsked_29
  · refine lv_iload_n hx hb dX7_isAsked_7 rfl (lv_at hl 2 rfl) ?_
    refine lv_iconst (v := 0) hx hb dX7_isAsked_8 (by decide) ?_
    refine lv_bipush (v := 100) hx hb dX7_isAsked_9 (by decide) ?_
    refine xc_i (va_runS (As := [.int p2, .int 0, .int 100]) (rest := []) ⟨hx, hb, hml, hown, hts⟩ (c_X7_isIn l dC dI cI cJ q σ p2 0 100) (va_cwS 3 hts (gS ml_X7_73 st_X7_isIn in_X7 co_X7_isIn) rfl rfl rfl (by decide +kernel) ⟨Nat.le_of_ble_eq_true rfl, Nat.le_of_ble_eq_true rfl⟩) (preS hK hP) rfl rfl hl.1 rfl (lv_room (Nat.le_of_ble_eq_true rfl)) dX7_isAsked_11 ⟨Nat.zero_le _, Nat.zero_le _⟩) ?_
    refine lv_if_eq (tgt := 28) hx hb dX7_isAsked_14 (by decide) (fun c_14 => ?_) (fun c_14 => ?_)
    · refine lv_iconst (v := 0) hx hb dX7_isAsked_28 (by decide) ?_
      exact W.zret (v := 0) hx hb hr narrow_b0 (fun t ht hW => ⟨_, rfl, (by rw [fX7_isAsked, if_neg c_4, if_pos c_14]), ht⟩) (fun _ h => absurd h List.not_mem_nil) dX7_isAsked_29
    · refine lv_iload_n hx hb dX7_isAsked_17 rfl (lv_at hl 3 rfl) ?_
      refine xc_i (va_runS (As := [.int p3]) (rest := []) ⟨hx, hb, hml, hown, hts⟩ (c_X7_isDay l dC dI cI cJ q σ p3) (va_cwS 1 hts (gS ml_X7_95 st_X7_isDay in_X7 co_X7_isDay) rfl rfl rfl (by decide +kernel) ⟨Nat.le_of_ble_eq_true rfl, Nat.le_of_ble_eq_true rfl⟩) (preS hK hP) rfl rfl hl.1 rfl (lv_room (Nat.le_of_ble_eq_true rfl)) dX7_isAsked_18 ⟨Nat.zero_le _, Nat.zero_le _⟩) ?_
      refine lv_if_eq (tgt := 28) hx hb dX7_isAsked_21 (by decide) (fun c_21 => ?_) (fun c_21 => ?_)
      · refine lv_iconst (v := 0) hx hb dX7_isAsked_28 (by decide) ?_
        exact W.zret (v := 0) hx hb hr narrow_b0 (fun t ht hW => ⟨_, rfl, (by rw [fX7_isAsked, if_neg c_4, if_neg c_14, if_pos c_21]), ht⟩) (fun _ h => absurd h List.not_mem_nil) dX7_isAsked_29
      · refine lv_iconst (v := 1) hx hb dX7_isAsked_24 (by decide) ?_
        refine lv_goto (tgt := 29) hx hb dX7_isAsked_25 (by decide) ?_
        exact W.zret (v := 1) hx hb hr narrow_b1 (fun t ht hW => ⟨_, rfl, (by rw [fX7_isAsked, if_neg c_4, if_neg c_14, if_neg c_21]), ht⟩) (fun _ h => absurd h List.not_mem_nil) dX7_isAsked_29

def flX7_then_6 (σ : St) (p1 : Int32) (p2 : Int32) (p3 : Int32) : Nat → Nat → Int64 → Int64
  | 0, i, tot => tot
  | k + 1, i, tot => (if (fX7_isAsked σ p1 p2 p3) = 0 then tot else (if (fX7_isKnown σ (σ.1 18 ((nI i).toNatClampNeg)) (σ.1 19 ((nI i).toNatClampNeg)) p3) = 0 then flX7_then_6 σ p1 p2 p3 k (i + 1) tot else (if (fX7_living σ (σ.1 15 ((nI i).toNatClampNeg)) (σ.1 16 ((nI i).toNatClampNeg)) p3) = (-1) then flX7_then_6 σ p1 p2 p3 k (i + 1) tot else (if (fX7_valueOf σ (fX7_living σ (σ.1 15 ((nI i).toNatClampNeg)) (σ.1 16 ((nI i).toNatClampNeg)) p3) p1 (σ.1 16 i) p3) = p2 then flX7_then_6 σ p1 p2 p3 k (i + 1) (tot + ((σ.1 17 i).toInt64)) else flX7_then_6 σ p1 p2 p3 k (i + 1) tot))))
def fX7_then (σ : St) (p1 : Int32) (p2 : Int32) (p3 : Int32) : Int64 :=
  flX7_then_6 σ p1 p2 p3 ((σ.2.1 2).toNatClampNeg) 0 0
set_option maxHeartbeats 4000000 in
set_option maxRecDepth 100000 in
theorem c_X7_then (l : Launch) (dC : Nat → ClassId) (dI : Nat → Nat → Nat) (cI cJ : ClassId) (q : Nat → Nat) (σ : St) (p1 : Int32) (p2 : Int32) (p3 : Int32) (hI : IB σ) : Met l yX7_then (.code yX7_then cX7_then 8 (some .long) :: tb) { frames := 4, cells := 0, slots := 0, locals := 91 } (Pu (dC, dI) (tyC cI cJ) (wM cI cJ q σ) [.ref (q 0), .int p1, .int p2, .int p3]) (vp_Sl (fun r => r = fX7_then σ p1 p2 p3)) 0 0 (fun _ => False) := by
  refine Met.ofW (cc := cX7_then) (maxL := 8) (ret := (some .long)) (by decide) rfl ?_
  intro p e s m args below meth c s₁ B hml hv
  obtain ⟨rfl, hP, hK⟩ := hv
  have hx := B.exec
  have hb := B.bytes
  have hr := B.returns
  have hts0 := atoms_spec (ws := .code yX7_then cX7_then 8 (some .long) :: tb) B.pre
  have hts : ∀ w ∈ tb, w.before _ s = true := fun w hw => hts0 w (List.mem_cons_of_mem _ hw)
  have hown : s.vm.findClass RX7 = some m.cls := findClass_of_methodNamed B.named
  have hlocks := B.notSynchronized
  have hl := lv_entry ([.ref (q 0), .int p1, .int p2, .int p3]) (n := 8) (Nat.le_of_ble_eq_true rfl)
  rw [lg_entry_eq]
  generalize (lg_sl ([.ref (q 0), .int p1, .int p2, .int p3]) ++ List.replicate (8 - (lg_sl ([.ref (q 0), .int p1, .int p2, .int p3])).length) Slot.unset).toArray = ls at hl ⊢
  have hl : lv_has ls 8 [(0, .ref (q 0)), (1, .int p1), (2, .int p2), (3, .int p3)] := hl
  refine lv_lconst (v := 0) hx hb dX7_then_0 (by decide) ?_
  refine lv_lstore (lv' := [(4, .long 0), (0, .ref (q 0)), (1, .int p1), (2, .int p2), (3, .int p3)]) hx hb dX7_then_1 hl (by decide) rfl (fun ls hl => ?_)
  refine lv_iconst (v := 0) hx hb dX7_then_3 (by decide) ?_
  refine lv_istore (lv' := [(6, .int 0), (4, .long 0), (0, .ref (q 0)), (1, .int p1), (2, .int p2), (3, .int p3)]) hx hb dX7_then_4 hl (by decide) rfl (fun ls hl => ?_)
  have hz : szI (σ.2.1 2) 200 := hI.2.1
  have hz2 := hz.2
  have loop_6 : ∀ (k i : Nat) (tot : Int64), i + k = (σ.2.1 2).toNatClampNeg → fX7_then σ p1 p2 p3 = flX7_then_6 σ p1 p2 p3 k i tot → ∀ (ls : Array Slot), lv_has ls 8 [(0, .ref (q 0)), (1, .int p1), (2, .int p2), (3, .int p3), (6, .int (nI i)), (4, .long tot)] → W p l e (headSpec (.code yX7_then cX7_then 8 (some .long) :: tb) { frames := 4, cells := 0, slots := 0, locals := 91 }).room s m (List.toArray [.ref (q 0), .int p1, .int p2, .int p3]) below meth c s.heap [] 0 0 (MQ below (vp_Sl (fun r => r = fX7_then σ p1 p2 p3)) (List.toArray [.ref (q 0), .int p1, .int p2, .int p3]) s 0 0 (fun _ => False)) (F0 m 6 ls []) := by
    intro k
    induction k with
    | zero =>
      intro i tot hik hE ls hl
      refine lv_iload hx hb dX7_then_6 (lv_at hl 4 rfl) ?_
      refine lv_aload_n hx hb dX7_then_8 rfl (lv_at hl 0 rfl) ?_
      refine va_get (D := (dC, dI)) (ci := 7) (v := .int (σ.2.1 2)) (C := RX7) (T := TX7) (N := 26) hx hb hts inX7 hown hK hP 0 rfl rfl 2 (by decide) (hts _ fl_X7_142) (fun _ h9 => h9) rfl dX7_then_9 ?_
      refine lv_icmp_ge (tgt := 91) hx hb dX7_then_12 (by decide) (fun c_12 => ?_) (fun c_12 => ?_)
      · refine lv_lload hx hb dX7_then_91 (lv_at hl 5 rfl) ?_
        exact W.lret (v := tot) hx hb hr (fun t ht hW => ⟨_, rfl, (by rw [hE, flX7_then_6]), ht⟩) (fun _ h => absurd h List.not_mem_nil) dX7_then_93
      · exact absurd (by rw [hz.1]; exact nI_le (by omega) (by omega)) c_12
    | succ k ih =>
      intro i tot hik hE ls hl
      refine lv_iload hx hb dX7_then_6 (lv_at hl 4 rfl) ?_
      refine lv_aload_n hx hb dX7_then_8 rfl (lv_at hl 0 rfl) ?_
      refine va_get (D := (dC, dI)) (ci := 7) (v := .int (σ.2.1 2)) (C := RX7) (T := TX7) (N := 26) hx hb hts inX7 hown hK hP 0 rfl rfl 2 (by decide) (hts _ fl_X7_142) (fun _ h9 => h9) rfl dX7_then_9 ?_
      refine lv_icmp_ge (tgt := 91) hx hb dX7_then_12 (by decide) (fun c_12 => ?_) (fun c_12 => ?_)
      · exact absurd c_12 (by rw [hz.1]; exact nI_ge (by omega) (by omega))
      · refine lv_aload_n hx hb dX7_then_15 rfl (lv_at hl 0 rfl) ?_
        refine lv_iload_n hx hb dX7_then_16 rfl (lv_at hl 1 rfl) ?_
        refine lv_iload_n hx hb dX7_then_17 rfl (lv_at hl 2 rfl) ?_
        refine lv_iload_n hx hb dX7_then_18 rfl (lv_at hl 3 rfl) ?_
        refine xc_i (va_runV (As := [.int p1, .int p2, .int p3]) (rest := []) ⟨hx, hb, hml, hown, hts⟩ (c_X7_isAsked l dC dI cI cJ q σ p1 p2 p3) (cwV 3 hts (gV ml_X7_155 im_X7_isAsked se_X7_isAsked in_X7 co_X7_isAsked) rfl rfl rfl (by decide +kernel) ⟨Nat.le_of_ble_eq_true rfl, Nat.le_of_ble_eq_true rfl⟩) (preV hK hP (pos := 0) (ci := 7) rfl rfl) rfl rfl hl.1 rfl (lv_room (Nat.le_of_ble_eq_true rfl)) dX7_then_19 ⟨Nat.zero_le _, Nat.zero_le _⟩) ?_
        refine lv_if_eq (tgt := 91) hx hb dX7_then_22 (by decide) (fun c_22 => ?_) (fun c_22 => ?_)
        · refine lv_lload hx hb dX7_then_91 (lv_at hl 5 rfl) ?_
          exact W.lret (v := tot) hx hb hr (fun t ht hW => ⟨_, rfl, (by rw [hE, flX7_then_6, if_pos c_22]), ht⟩) (fun _ h => absurd h List.not_mem_nil) dX7_then_93
        · refine lv_aload_n hx hb dX7_then_25 rfl (lv_at hl 0 rfl) ?_
          refine lv_iload hx hb dX7_then_26 (lv_at hl 4 rfl) ?_
          refine lv_iload_n hx hb dX7_then_28 rfl (lv_at hl 3 rfl) ?_
          refine xc_i (va_runV (As := [.int (nI i), .int p3]) (rest := []) ⟨hx, hb, hml, hown, hts⟩ (c_X7_isFact l dC dI cI cJ q σ (nI i) p3 (by assumption) (vp_in_nI (by omega) (by omega))) (cwV 2 hts (gV ml_X7_149 im_X7_isFact se_X7_isFact in_X7 co_X7_isFact) rfl rfl rfl (by decide +kernel) ⟨Nat.le_of_ble_eq_true rfl, Nat.le_of_ble_eq_true rfl⟩) (preV hK hP (pos := 0) (ci := 7) rfl rfl) rfl rfl hl.1 rfl (lv_room (Nat.le_of_ble_eq_true rfl)) dX7_then_29 ⟨Nat.zero_le _, Nat.zero_le _⟩) ?_
          refine lv_if_ne (tgt := 38) hx hb dX7_then_32 (by decide) (fun c_32 => ?_) (fun c_32 => ?_)
          · refine lv_aload_n hx hb dX7_then_38 rfl (lv_at hl 0 rfl) ?_
            refine lv_iload hx hb dX7_then_39 (lv_at hl 4 rfl) ?_
            refine lv_iload_n hx hb dX7_then_41 rfl (lv_at hl 3 rfl) ?_
            refine xc_i (va_runV (As := [.int (nI i), .int p3]) (rest := []) ⟨hx, hb, hml, hown, hts⟩ (c_X7_thingOf l dC dI cI cJ q σ (nI i) p3 (by assumption) (vp_in_nI (by omega) (by decide))) (cwV 2 hts (gV ml_X7_152 im_X7_thingOf se_X7_thingOf in_X7 co_X7_thingOf) rfl rfl rfl (by decide +kernel) ⟨Nat.le_of_ble_eq_true rfl, Nat.le_of_ble_eq_true rfl⟩) (preV hK hP (pos := 0) (ci := 7) rfl rfl) rfl rfl hl.1 rfl (lv_room (Nat.le_of_ble_eq_true rfl)) dX7_then_42 ⟨Nat.zero_le _, Nat.zero_le _⟩) ?_
            refine lv_istore (lv' := [(7, .int (fX7_living σ (σ.1 15 ((nI i).toNatClampNeg)) (σ.1 16 ((nI i).toNatClampNeg)) p3)), (0, .ref (q 0)), (1, .int p1), (2, .int p2), (3, .int p3), (6, .int (nI i)), (4, .long tot)]) hx hb dX7_then_45 hl (by decide) rfl (fun ls hl => ?_)
            refine lv_iload hx hb dX7_then_47 (lv_at hl 0 rfl) ?_
            refine lv_iconst (v := (-1)) hx hb dX7_then_49 (by decide) ?_
            refine lv_icmp_eq (tgt := 85) hx hb dX7_then_50 (by decide) (fun c_50 => ?_) (fun c_50 => ?_)
            · refine lv_iinc (v := nI (i + 1)) (lv' := [(6, .int (nI (i + 1))), (7, .int (fX7_living σ (σ.1 15 ((nI i).toNatClampNeg)) (σ.1 16 ((nI i).toNatClampNeg)) p3)), (0, .ref (q 0)), (1, .int p1), (2, .int p2), (3, .int p3), (4, .long tot)]) hx hb dX7_then_85 hl (k := 5) rfl (nI_1 i) (by decide) rfl (fun ls hl => ?_)
              refine lv_goto (tgt := 6) hx hb dX7_then_88 (by decide) ?_
              exact ih (i + 1) tot (by omega) (by rw [hE, flX7_then_6, if_neg c_22, if_neg c_32, if_pos c_50]) ls (lv_sub hl [2, 3, 4, 5, 0, 6] rfl)
            · refine lv_aload_n hx hb dX7_then_53 rfl (lv_at hl 1 rfl) ?_
              refine lv_iload hx hb dX7_then_54 (lv_at hl 0 rfl) ?_
              refine lv_iload_n hx hb dX7_then_56 rfl (lv_at hl 2 rfl) ?_
              refine lv_aload_n hx hb dX7_then_57 rfl (lv_at hl 1 rfl) ?_
              refine va_get (D := (dC, dI)) (ci := 7) (v := .ref (q 11)) (C := RX7) (T := TX7) (N := 26) hx hb hts inX7 hown hK hP 0 rfl rfl 15 (by decide) (hts _ fl_X7_40) (fun _ h9 => h9) rfl dX7_then_58 ?_
              refine lv_iload hx hb dX7_then_61 (lv_at hl 5 rfl) ?_
              refine xa_ild hx hb hK hP 11 0 rfl rfl (by omega) (by decide) dX7_then_63 ?_
              refine lv_iload_n hx hb dX7_then_64 rfl (lv_at hl 4 rfl) ?_
              refine xc_i (va_runV (As := [.int (fX7_living σ (σ.1 15 ((nI i).toNatClampNeg)) (σ.1 16 ((nI i).toNatClampNeg)) p3), .int p1, .int (σ.1 16 i), .int p3]) (rest := []) ⟨hx, hb, hml, hown, hts⟩ (c_X7_valueOf l dC dI cI cJ q σ (fX7_living σ (σ.1 15 ((nI i).toNatClampNeg)) (σ.1 16 ((nI i).toNatClampNeg)) p3) p1 (σ.1 16 i) p3 (by assumption)) (cwV 4 hts (gV ml_X7_131 im_X7_valueOf se_X7_valueOf in_X7 co_X7_valueOf) rfl rfl rfl (by decide +kernel) ⟨Nat.le_of_ble_eq_true rfl, Nat.le_of_ble_eq_true rfl⟩) (preV hK hP (pos := 0) (ci := 7) rfl rfl) rfl rfl hl.1 rfl (lv_room (Nat.le_of_ble_eq_true rfl)) dX7_then_65 ⟨Nat.zero_le _, Nat.zero_le _⟩) ?_
              refine lv_iload_n hx hb dX7_then_68 rfl (lv_at hl 3 rfl) ?_
              refine lv_icmp_ne (tgt := 85) hx hb dX7_then_69 (by decide) (fun c_69 => ?_) (fun c_69 => ?_)
              · refine lv_iinc (v := nI (i + 1)) (lv' := [(6, .int (nI (i + 1))), (7, .int (fX7_living σ (σ.1 15 ((nI i).toNatClampNeg)) (σ.1 16 ((nI i).toNatClampNeg)) p3)), (0, .ref (q 0)), (1, .int p1), (2, .int p2), (3, .int p3), (4, .long tot)]) hx hb dX7_then_85 hl (k := 5) rfl (nI_1 i) (by decide) rfl (fun ls hl => ?_)
                refine lv_goto (tgt := 6) hx hb dX7_then_88 (by decide) ?_
                exact ih (i + 1) tot (by omega) (by rw [hE, flX7_then_6, if_neg c_22, if_neg c_32, if_neg c_50, if_neg c_69]) ls (lv_sub hl [2, 3, 4, 5, 0, 6] rfl)
              · refine lv_lload hx hb dX7_then_72 (lv_at hl 6 rfl) ?_
                refine lv_aload_n hx hb dX7_then_74 rfl (lv_at hl 1 rfl) ?_
                refine va_get (D := (dC, dI)) (ci := 7) (v := .ref (q 12)) (C := RX7) (T := TX7) (N := 26) hx hb hts inX7 hown hK hP 0 rfl rfl 16 (by decide) (hts _ fl_X7_43) (fun _ h9 => h9) rfl dX7_then_75 ?_
                refine lv_iload hx hb dX7_then_78 (lv_at hl 5 rfl) ?_
                refine xa_ild hx hb hK hP 12 0 rfl rfl (by omega) (by decide) dX7_then_80 ?_
                refine lv_i2l (v := (σ.1 17 i).toInt64) hx hb dX7_then_81 rfl ?_
                refine lv_ladd hx hb dX7_then_82 ?_
                refine lv_lstore (lv' := [(4, .long (tot + ((σ.1 17 i).toInt64))), (7, .int (fX7_living σ (σ.1 15 ((nI i).toNatClampNeg)) (σ.1 16 ((nI i).toNatClampNeg)) p3)), (0, .ref (q 0)), (1, .int p1), (2, .int p2), (3, .int p3), (6, .int (nI i))]) hx hb dX7_then_83 hl (by decide) rfl (fun ls hl => ?_)
                refine lv_iinc (v := nI (i + 1)) (lv' := [(6, .int (nI (i + 1))), (4, .long (tot + ((σ.1 17 i).toInt64))), (7, .int (fX7_living σ (σ.1 15 ((nI i).toNatClampNeg)) (σ.1 16 ((nI i).toNatClampNeg)) p3)), (0, .ref (q 0)), (1, .int p1), (2, .int p2), (3, .int p3)]) hx hb dX7_then_85 hl (k := 6) rfl (nI_1 i) (by decide) rfl (fun ls hl => ?_)
                refine lv_goto (tgt := 6) hx hb dX7_then_88 (by decide) ?_
                exact ih (i + 1) (tot + ((σ.1 17 i).toInt64)) (by omega) (by rw [hE, flX7_then_6, if_neg c_22, if_neg c_32, if_neg c_50, if_pos c_69]) ls (lv_sub hl [3, 4, 5, 6, 0, 1] rfl)
          · refine lv_goto (tgt := 85) hx hb dX7_then_35 (by decide) ?_
            refine lv_iinc (v := nI (i + 1)) (lv' := [(6, .int (nI (i + 1))), (0, .ref (q 0)), (1, .int p1), (2, .int p2), (3, .int p3), (4, .long tot)]) hx hb dX7_then_85 hl (k := 4) rfl (nI_1 i) (by decide) rfl (fun ls hl => ?_)
            refine lv_goto (tgt := 6) hx hb dX7_then_88 (by decide) ?_
            exact ih (i + 1) tot (by omega) (by rw [hE, flX7_then_6, if_neg c_22, if_pos c_32]) ls (lv_sub hl [1, 2, 3, 4, 0, 5] rfl)
  exact loop_6 ((σ.2.1 2).toNatClampNeg) 0 0 (by rw [Nat.zero_add]) (by rw [fX7_then]) ls (lv_sub hl [2, 3, 4, 5, 0, 1] rfl)

def fX7_carried : Nat → St → Int32 → Int32 → Int32 → Int32 → Int32 → Int32 → Int64
  | 0, σ, p1, p2, p3, p4, p5, p6 => 0
  | k + 1, σ, p1, p2, p3, p4, p5, p6 => (if (fX7_lives σ p2 p3 p4) = 0 then (if p3 < (σ.1 1 p2.toNatClampNeg) then (if p5 = (-1) then p1.toInt64 else 0) else (if p3 < (fX7_endBy σ p2 p4) then (if p5 = (-1) then p1.toInt64 else 0) else (if (σ.1 5 p2.toNatClampNeg) = 2 then (fX7_carried k σ ((p1 * (σ.1 7 p2.toNatClampNeg)) / (σ.1 8 p2.toNatClampNeg)) (σ.1 6 p2.toNatClampNeg) p3 p4 p5 p6) + (fX7_carried k σ (p1 - ((p1 * (σ.1 7 p2.toNatClampNeg)) / (σ.1 8 p2.toNatClampNeg))) ((σ.1 6 p2.toNatClampNeg) + 1) p3 p4 p5 p6) else (if (σ.1 5 p2.toNatClampNeg) = 3 then fX7_carried k σ p1 (σ.1 6 p2.toNatClampNeg) p3 p4 p5 p6 else (if p5 = (-1) then p1.toInt64 else 0))))) else (if p5 = (-1) then 0 else (if (fX7_valueOf σ p2 p5 p3 p4) = p6 then p1.toInt64 else 0)))
set_option maxHeartbeats 4000000 in
set_option maxRecDepth 100000 in
theorem c_X7_carried (l : Launch) (dC : Nat → ClassId) (dI : Nat → Nat → Nat) (cI cJ : ClassId) (q : Nat → Nat) : ∀ (k : Nat) (σ : St) (p1 : Int32) (p2 : Int32) (p3 : Int32) (p4 : Int32) (p5 : Int32) (p6 : Int32) (hI : IB σ) (hW : HM σ) (hT : vp_in p2 (σ.2.1 1).toNatClampNeg) (hk : (σ.2.1 1).toNatClampNeg ≤ p2.toNatClampNeg + k), Met l yX7_carried (.code yX7_carried cX7_carried 9 (some .long) :: tb) { frames := 3 + k, cells := 0, slots := 0, locals := 73 + 28 * k } (Pu (dC, dI) (tyC cI cJ) (wM cI cJ q σ) [.ref (q 0), .int p1, .int p2, .int p3, .int p4, .int p5, .int p6]) (vp_Sl (fun r => r = fX7_carried k σ p1 p2 p3 p4 p5 p6)) 0 0 (fun _ => False) := by
  intro k
  induction k with
  | zero =>
    intro σ p1 p2 p3 p4 p5 p6 hI hW hT hk
    exact absurd (vp_in_lt hT) (by omega)
  | succ k ih =>
    intro σ p1 p2 p3 p4 p5 p6 hI hW hT hk
    refine Met.ofW (cc := cX7_carried) (maxL := 9) (ret := (some .long)) (by decide) rfl ?_
    intro p e s m args below meth c s₁ B hml hv
    obtain ⟨rfl, hP, hK⟩ := hv
    have hx := B.exec
    have hb := B.bytes
    have hr := B.returns
    have hts0 := atoms_spec (ws := .code yX7_carried cX7_carried 9 (some .long) :: tb) B.pre
    have hts : ∀ w ∈ tb, w.before _ s = true := fun w hw => hts0 w (List.mem_cons_of_mem _ hw)
    have hown : s.vm.findClass RX7 = some m.cls := findClass_of_methodNamed B.named
    have hlocks := B.notSynchronized
    have hl := lv_entry ([.ref (q 0), .int p1, .int p2, .int p3, .int p4, .int p5, .int p6]) (n := 9) (Nat.le_of_ble_eq_true rfl)
    rw [lg_entry_eq]
    generalize (lg_sl ([.ref (q 0), .int p1, .int p2, .int p3, .int p4, .int p5, .int p6]) ++ List.replicate (9 - (lg_sl ([.ref (q 0), .int p1, .int p2, .int p3, .int p4, .int p5, .int p6])).length) Slot.unset).toArray = ls at hl ⊢
    have hl : lv_has ls 9 [(0, .ref (q 0)), (1, .int p1), (2, .int p2), (3, .int p3), (4, .int p4), (5, .int p5), (6, .int p6)] := hl
    refine lv_aload_n hx hb dX7_carried_0 rfl (lv_at hl 0 rfl) ?_
    refine lv_iload_n hx hb dX7_carried_1 rfl (lv_at hl 2 rfl) ?_
    refine lv_iload_n hx hb dX7_carried_2 rfl (lv_at hl 3 rfl) ?_
    refine lv_iload hx hb dX7_carried_3 (lv_at hl 4 rfl) ?_
    refine xc_i (va_runV (As := [.int p2, .int p3, .int p4]) (rest := []) ⟨hx, hb, hml, hown, hts⟩ (c_X7_lives l dC dI cI cJ q σ p2 p3 p4 (vp_in_mono hT hI.1.2)) (cwV 3 hts (gV ml_X7_88 im_X7_lives se_X7_lives in_X7 co_X7_lives) rfl rfl rfl (by decide +kernel) ⟨(show 1 + 1 ≤ 3 + (k + 1) by omega), (show 8 + (4 + 11) + 22 ≤ 73 + 28 * (k + 1) by omega)⟩) (preV hK hP (pos := 0) (ci := 7) rfl rfl) rfl rfl hl.1 rfl (lv_room (Nat.le_of_ble_eq_true rfl)) dX7_carried_5 ⟨Nat.zero_le _, Nat.zero_le _⟩) ?_
    refine lv_if_eq (tgt := 39) hx hb dX7_carried_8 (by decide) (fun c_8 => ?_) (fun c_8 => ?_)
    · refine lv_iload_n hx hb dX7_carried_39 rfl (lv_at hl 3 rfl) ?_
      refine lv_aload_n hx hb dX7_carried_40 rfl (lv_at hl 0 rfl) ?_
      refine va_get (D := (dC, dI)) (ci := 7) (v := .ref (q 2)) (C := RX7) (T := TX7) (N := 26) hx hb hts inX7 hown hK hP 0 rfl rfl 6 (by decide) (hts _ fl_X7_13) (fun _ h9 => h9) rfl dX7_carried_41 ?_
      refine lv_iload_n hx hb dX7_carried_44 rfl (lv_at hl 2 rfl) ?_
      refine va_iald hx hb hK hP 2 0 rfl rfl (vp_in_mono hT hI.1.2) dX7_carried_45 ?_
      refine lv_icmp_lt (tgt := 64) hx hb dX7_carried_46 (by decide) (fun c_46 => ?_) (fun c_46 => ?_)
      · refine lv_iconst (v := 0) hx hb dX7_carried_64 (by decide) ?_
        refine lv_istore (lv' := [(7, .int 0), (0, .ref (q 0)), (1, .int p1), (2, .int p2), (3, .int p3), (4, .int p4), (5, .int p5), (6, .int p6)]) hx hb dX7_carried_65 hl (by decide) rfl (fun ls hl => ?_)
        refine lv_iload hx hb dX7_carried_67 (lv_at hl 0 rfl) ?_
        refine lv_if_eq (tgt := 143) hx hb dX7_carried_69 (by decide) (fun c_69 => ?_) (fun c_69 => ?_)
        · refine lv_iload hx hb dX7_carried_143 (lv_at hl 0 rfl) ?_
          refine lv_if_eq (tgt := 177) hx hb dX7_carried_145 (by decide) (fun c_145 => ?_) (fun c_145 => ?_)
          · refine lv_iload hx hb dX7_carried_177 (lv_at hl 6 rfl) ?_
            refine lv_iconst (v := (-1)) hx hb dX7_carried_179 (by decide) ?_
            refine lv_icmp_ne (tgt := 188) hx hb dX7_carried_180 (by decide) (fun c_180 => ?_) (fun c_180 => ?_)
            · refine lv_lconst (v := 0) hx hb dX7_carried_188 (by decide) ?_
              exact W.lret (v := 0) hx hb hr (fun t ht hW => ⟨_, rfl, (by rw [fX7_carried, if_pos c_8, if_pos c_46, if_neg c_180]), ht⟩) (fun _ h => absurd h List.not_mem_nil) dX7_carried_189
            · refine lv_iload_n hx hb dX7_carried_183 rfl (lv_at hl 2 rfl) ?_
              refine lv_i2l (v := p1.toInt64) hx hb dX7_carried_184 rfl ?_
              refine lv_goto (tgt := 189) hx hb dX7_carried_185 (by decide) ?_
              exact W.lret (v := p1.toInt64) hx hb hr (fun t ht hW => ⟨_, rfl, (by rw [fX7_carried, if_pos c_8, if_pos c_46, if_pos c_180]), ht⟩) (fun _ h => absurd h List.not_mem_nil) dX7_carried_189
          · exact absurd (by decide) c_145
        · exact absurd (by decide) c_69
      · refine lv_aload_n hx hb dX7_carried_49 rfl (lv_at hl 0 rfl) ?_
        refine lv_iload_n hx hb dX7_carried_50 rfl (lv_at hl 2 rfl) ?_
        refine lv_iload hx hb dX7_carried_51 (lv_at hl 4 rfl) ?_
        refine xc_i (va_runV (As := [.int p2, .int p4]) (rest := []) ⟨hx, hb, hml, hown, hts⟩ (c_X7_endBy l dC dI cI cJ q σ p2 p4 (vp_in_mono hT hI.1.2)) (cwV 2 hts (gV ml_X7_84 im_X7_endBy se_X7_endBy in_X7 co_X7_endBy) rfl rfl rfl (by decide +kernel) ⟨(show 0 + 1 ≤ 3 + (k + 1) by omega), (show 8 + (3 + 11) + 0 ≤ 73 + 28 * (k + 1) by omega)⟩) (preV hK hP (pos := 0) (ci := 7) rfl rfl) rfl rfl hl.1 rfl (lv_room (Nat.le_of_ble_eq_true rfl)) dX7_carried_53 ⟨Nat.zero_le _, Nat.zero_le _⟩) ?_
        refine lv_iload_n hx hb dX7_carried_56 rfl (lv_at hl 3 rfl) ?_
        refine lv_icmp_gt (tgt := 64) hx hb dX7_carried_57 (by decide) (fun c_57 => ?_) (fun c_57 => ?_)
        · refine lv_iconst (v := 0) hx hb dX7_carried_64 (by decide) ?_
          refine lv_istore (lv' := [(7, .int 0), (0, .ref (q 0)), (1, .int p1), (2, .int p2), (3, .int p3), (4, .int p4), (5, .int p5), (6, .int p6)]) hx hb dX7_carried_65 hl (by decide) rfl (fun ls hl => ?_)
          refine lv_iload hx hb dX7_carried_67 (lv_at hl 0 rfl) ?_
          refine lv_if_eq (tgt := 143) hx hb dX7_carried_69 (by decide) (fun c_69 => ?_) (fun c_69 => ?_)
          · refine lv_iload hx hb dX7_carried_143 (lv_at hl 0 rfl) ?_
            refine lv_if_eq (tgt := 177) hx hb dX7_carried_145 (by decide) (fun c_145 => ?_) (fun c_145 => ?_)
            · refine lv_iload hx hb dX7_carried_177 (lv_at hl 6 rfl) ?_
              refine lv_iconst (v := (-1)) hx hb dX7_carried_179 (by decide) ?_
              refine lv_icmp_ne (tgt := 188) hx hb dX7_carried_180 (by decide) (fun c_180 => ?_) (fun c_180 => ?_)
              · refine lv_lconst (v := 0) hx hb dX7_carried_188 (by decide) ?_
                exact W.lret (v := 0) hx hb hr (fun t ht hW => ⟨_, rfl, (by rw [fX7_carried, if_pos c_8, if_neg c_46, if_pos c_57, if_neg c_180]), ht⟩) (fun _ h => absurd h List.not_mem_nil) dX7_carried_189
              · refine lv_iload_n hx hb dX7_carried_183 rfl (lv_at hl 2 rfl) ?_
                refine lv_i2l (v := p1.toInt64) hx hb dX7_carried_184 rfl ?_
                refine lv_goto (tgt := 189) hx hb dX7_carried_185 (by decide) ?_
                exact W.lret (v := p1.toInt64) hx hb hr (fun t ht hW => ⟨_, rfl, (by rw [fX7_carried, if_pos c_8, if_neg c_46, if_pos c_57, if_pos c_180]), ht⟩) (fun _ h => absurd h List.not_mem_nil) dX7_carried_189
            · exact absurd (by decide) c_145
          · exact absurd (by decide) c_69
        · refine lv_iconst (v := 1) hx hb dX7_carried_60 (by decide) ?_
          refine lv_goto (tgt := 65) hx hb dX7_carried_61 (by decide) ?_
          refine lv_istore (lv' := [(7, .int 1), (0, .ref (q 0)), (1, .int p1), (2, .int p2), (3, .int p3), (4, .int p4), (5, .int p5), (6, .int p6)]) hx hb dX7_carried_65 hl (by decide) rfl (fun ls hl => ?_)
          refine lv_iload hx hb dX7_carried_67 (lv_at hl 0 rfl) ?_
          refine lv_if_eq (tgt := 143) hx hb dX7_carried_69 (by decide) (fun c_69 => ?_) (fun c_69 => ?_)
          · exact absurd c_69 (by decide)
          · refine lv_aload_n hx hb dX7_carried_72 rfl (lv_at hl 1 rfl) ?_
            refine va_get (D := (dC, dI)) (ci := 7) (v := .ref (q 6)) (C := RX7) (T := TX7) (N := 26) hx hb hts inX7 hown hK hP 0 rfl rfl 10 (by decide) (hts _ fl_X7_25) (fun _ h9 => h9) rfl dX7_carried_73 ?_
            refine lv_iload_n hx hb dX7_carried_76 rfl (lv_at hl 3 rfl) ?_
            refine va_iald hx hb hK hP 6 0 rfl rfl (vp_in_mono hT hI.1.2) dX7_carried_77 ?_
            refine lv_iconst (v := 2) hx hb dX7_carried_78 (by decide) ?_
            refine lv_icmp_ne (tgt := 143) hx hb dX7_carried_79 (by decide) (fun c_79 => ?_) (fun c_79 => ?_)
            · refine lv_iload hx hb dX7_carried_143 (lv_at hl 0 rfl) ?_
              refine lv_if_eq (tgt := 177) hx hb dX7_carried_145 (by decide) (fun c_145 => ?_) (fun c_145 => ?_)
              · exact absurd c_145 (by decide)
              · refine lv_aload_n hx hb dX7_carried_148 rfl (lv_at hl 1 rfl) ?_
                refine va_get (D := (dC, dI)) (ci := 7) (v := .ref (q 6)) (C := RX7) (T := TX7) (N := 26) hx hb hts inX7 hown hK hP 0 rfl rfl 10 (by decide) (hts _ fl_X7_25) (fun _ h9 => h9) rfl dX7_carried_149 ?_
                refine lv_iload_n hx hb dX7_carried_152 rfl (lv_at hl 3 rfl) ?_
                refine va_iald hx hb hK hP 6 0 rfl rfl (vp_in_mono hT hI.1.2) dX7_carried_153 ?_
                refine lv_iconst (v := 3) hx hb dX7_carried_154 (by decide) ?_
                refine lv_icmp_ne (tgt := 177) hx hb dX7_carried_155 (by decide) (fun c_155 => ?_) (fun c_155 => ?_)
                · refine lv_iload hx hb dX7_carried_177 (lv_at hl 6 rfl) ?_
                  refine lv_iconst (v := (-1)) hx hb dX7_carried_179 (by decide) ?_
                  refine lv_icmp_ne (tgt := 188) hx hb dX7_carried_180 (by decide) (fun c_180 => ?_) (fun c_180 => ?_)
                  · refine lv_lconst (v := 0) hx hb dX7_carried_188 (by decide) ?_
                    exact W.lret (v := 0) hx hb hr (fun t ht hW => ⟨_, rfl, (by rw [fX7_carried, if_pos c_8, if_neg c_46, if_neg c_57, if_neg c_79, if_neg c_155, if_neg c_180]), ht⟩) (fun _ h => absurd h List.not_mem_nil) dX7_carried_189
                  · refine lv_iload_n hx hb dX7_carried_183 rfl (lv_at hl 2 rfl) ?_
                    refine lv_i2l (v := p1.toInt64) hx hb dX7_carried_184 rfl ?_
                    refine lv_goto (tgt := 189) hx hb dX7_carried_185 (by decide) ?_
                    exact W.lret (v := p1.toInt64) hx hb hr (fun t ht hW => ⟨_, rfl, (by rw [fX7_carried, if_pos c_8, if_neg c_46, if_neg c_57, if_neg c_79, if_neg c_155, if_pos c_180]), ht⟩) (fun _ h => absurd h List.not_mem_nil) dX7_carried_189
                · refine lv_aload_n hx hb dX7_carried_158 rfl (lv_at hl 1 rfl) ?_
                  refine lv_iload_n hx hb dX7_carried_159 rfl (lv_at hl 2 rfl) ?_
                  refine lv_aload_n hx hb dX7_carried_160 rfl (lv_at hl 1 rfl) ?_
                  refine va_get (D := (dC, dI)) (ci := 7) (v := .ref (q 7)) (C := RX7) (T := TX7) (N := 26) hx hb hts inX7 hown hK hP 0 rfl rfl 11 (by decide) (hts _ fl_X7_28) (fun _ h9 => h9) rfl dX7_carried_161 ?_
                  refine lv_iload_n hx hb dX7_carried_164 rfl (lv_at hl 3 rfl) ?_
                  refine va_iald hx hb hK hP 7 0 rfl rfl (vp_in_mono hT hI.1.2) dX7_carried_165 ?_
                  refine lv_iload_n hx hb dX7_carried_166 rfl (lv_at hl 4 rfl) ?_
                  refine lv_iload hx hb dX7_carried_167 (lv_at hl 5 rfl) ?_
                  refine lv_iload hx hb dX7_carried_169 (lv_at hl 6 rfl) ?_
                  refine lv_iload hx hb dX7_carried_171 (lv_at hl 7 rfl) ?_
                  refine xc_l (va_runV (As := [.int p1, .int (σ.1 6 p2.toNatClampNeg), .int p3, .int p4, .int p5, .int p6]) (rest := []) ⟨hx, hb, hml, hown, hts⟩ (ih σ p1 (σ.1 6 p2.toNatClampNeg) p3 p4 p5 p6 (by assumption) (by assumption) (hm_3 hI hW hT hk c_155).1 (hm_3 hI hW hT hk c_155).2) (cwV 6 hts (gV ml_X7_158 im_X7_carried se_X7_carried in_X7 co_X7_carried) rfl rfl rfl (by decide +kernel) ⟨(show (3 + k) + 1 ≤ 3 + (k + 1) by omega), (show 8 + (9 + 11) + (73 + 28 * k) ≤ 73 + 28 * (k + 1) by omega)⟩) (preV hK hP (pos := 0) (ci := 7) rfl rfl) rfl rfl hl.1 rfl (lv_room (Nat.le_of_ble_eq_true rfl)) dX7_carried_173 ⟨Nat.zero_le _, Nat.zero_le _⟩) ?_
                  exact W.lret (v := fX7_carried k σ p1 (σ.1 6 p2.toNatClampNeg) p3 p4 p5 p6) hx hb hr (fun t ht hW => ⟨_, rfl, (by rw [fX7_carried, if_pos c_8, if_neg c_46, if_neg c_57, if_neg c_79, if_pos c_155]), ht⟩) (fun _ h => absurd h List.not_mem_nil) dX7_carried_176
            · refine lv_iload_n hx hb dX7_carried_82 rfl (lv_at hl 2 rfl) ?_
              refine lv_aload_n hx hb dX7_carried_83 rfl (lv_at hl 1 rfl) ?_
              refine va_get (D := (dC, dI)) (ci := 7) (v := .ref (q 8)) (C := RX7) (T := TX7) (N := 26) hx hb hts inX7 hown hK hP 0 rfl rfl 12 (by decide) (hts _ fl_X7_31) (fun _ h9 => h9) rfl dX7_carried_84 ?_
              refine lv_iload_n hx hb dX7_carried_87 rfl (lv_at hl 3 rfl) ?_
              refine va_iald hx hb hK hP 8 0 rfl rfl (vp_in_mono hT hI.1.2) dX7_carried_88 ?_
              refine lv_imul hx hb dX7_carried_89 ?_
              refine lv_aload_n hx hb dX7_carried_90 rfl (lv_at hl 1 rfl) ?_
              refine va_get (D := (dC, dI)) (ci := 7) (v := .ref (q 9)) (C := RX7) (T := TX7) (N := 26) hx hb hts inX7 hown hK hP 0 rfl rfl 13 (by decide) (hts _ fl_X7_34) (fun _ h9 => h9) rfl dX7_carried_91 ?_
              refine lv_iload_n hx hb dX7_carried_94 rfl (lv_at hl 3 rfl) ?_
              refine va_iald hx hb hK hP 9 0 rfl rfl (vp_in_mono hT hI.1.2) dX7_carried_95 ?_
              refine lv_idiv hx hb dX7_carried_96 ((hW _ (vp_in_lt hT)).1 c_79).1 ?_
              refine lv_istore (lv' := [(8, .int ((p1 * (σ.1 7 p2.toNatClampNeg)) / (σ.1 8 p2.toNatClampNeg))), (7, .int 1), (0, .ref (q 0)), (1, .int p1), (2, .int p2), (3, .int p3), (4, .int p4), (5, .int p5), (6, .int p6)]) hx hb dX7_carried_97 hl (by decide) rfl (fun ls hl => ?_)
              refine lv_aload_n hx hb dX7_carried_99 rfl (lv_at hl 2 rfl) ?_
              refine lv_iload hx hb dX7_carried_100 (lv_at hl 0 rfl) ?_
              refine lv_aload_n hx hb dX7_carried_102 rfl (lv_at hl 2 rfl) ?_
              refine va_get (D := (dC, dI)) (ci := 7) (v := .ref (q 7)) (C := RX7) (T := TX7) (N := 26) hx hb hts inX7 hown hK hP 0 rfl rfl 11 (by decide) (hts _ fl_X7_28) (fun _ h9 => h9) rfl dX7_carried_103 ?_
              refine lv_iload_n hx hb dX7_carried_106 rfl (lv_at hl 4 rfl) ?_
              refine va_iald hx hb hK hP 7 0 rfl rfl (vp_in_mono hT hI.1.2) dX7_carried_107 ?_
              refine lv_iload_n hx hb dX7_carried_108 rfl (lv_at hl 5 rfl) ?_
              refine lv_iload hx hb dX7_carried_109 (lv_at hl 6 rfl) ?_
              refine lv_iload hx hb dX7_carried_111 (lv_at hl 7 rfl) ?_
              refine lv_iload hx hb dX7_carried_113 (lv_at hl 8 rfl) ?_
              refine xc_l (va_runV (As := [.int ((p1 * (σ.1 7 p2.toNatClampNeg)) / (σ.1 8 p2.toNatClampNeg)), .int (σ.1 6 p2.toNatClampNeg), .int p3, .int p4, .int p5, .int p6]) (rest := []) ⟨hx, hb, hml, hown, hts⟩ (ih σ ((p1 * (σ.1 7 p2.toNatClampNeg)) / (σ.1 8 p2.toNatClampNeg)) (σ.1 6 p2.toNatClampNeg) p3 p4 p5 p6 (by assumption) (by assumption) (hm_2 hI hW hT hk c_79).1.1 (hm_2 hI hW hT hk c_79).1.2) (cwV 6 hts (gV ml_X7_158 im_X7_carried se_X7_carried in_X7 co_X7_carried) rfl rfl rfl (by decide +kernel) ⟨(show (3 + k) + 1 ≤ 3 + (k + 1) by omega), (show 8 + (9 + 11) + (73 + 28 * k) ≤ 73 + 28 * (k + 1) by omega)⟩) (preV hK hP (pos := 0) (ci := 7) rfl rfl) rfl rfl hl.1 rfl (lv_room (Nat.le_of_ble_eq_true rfl)) dX7_carried_115 ⟨Nat.zero_le _, Nat.zero_le _⟩) ?_
              refine lv_aload_n hx hb dX7_carried_118 rfl (lv_at hl 2 rfl) ?_
              refine lv_iload_n hx hb dX7_carried_119 rfl (lv_at hl 3 rfl) ?_
              refine lv_iload hx hb dX7_carried_120 (lv_at hl 0 rfl) ?_
              refine lv_isub hx hb dX7_carried_122 ?_
              refine lv_aload_n hx hb dX7_carried_123 rfl (lv_at hl 2 rfl) ?_
              refine va_get (D := (dC, dI)) (ci := 7) (v := .ref (q 7)) (C := RX7) (T := TX7) (N := 26) hx hb hts inX7 hown hK hP 0 rfl rfl 11 (by decide) (hts _ fl_X7_28) (fun _ h9 => h9) rfl dX7_carried_124 ?_
              refine lv_iload_n hx hb dX7_carried_127 rfl (lv_at hl 4 rfl) ?_
              refine va_iald hx hb hK hP 7 0 rfl rfl (vp_in_mono hT hI.1.2) dX7_carried_128 ?_
              refine lv_iconst (v := 1) hx hb dX7_carried_129 (by decide) ?_
              refine lv_iadd hx hb dX7_carried_130 ?_
              refine lv_iload_n hx hb dX7_carried_131 rfl (lv_at hl 5 rfl) ?_
              refine lv_iload hx hb dX7_carried_132 (lv_at hl 6 rfl) ?_
              refine lv_iload hx hb dX7_carried_134 (lv_at hl 7 rfl) ?_
              refine lv_iload hx hb dX7_carried_136 (lv_at hl 8 rfl) ?_
              refine xc_l (va_runV (As := [.int (p1 - ((p1 * (σ.1 7 p2.toNatClampNeg)) / (σ.1 8 p2.toNatClampNeg))), .int ((σ.1 6 p2.toNatClampNeg) + 1), .int p3, .int p4, .int p5, .int p6]) (rest := [.long (fX7_carried k σ ((p1 * (σ.1 7 p2.toNatClampNeg)) / (σ.1 8 p2.toNatClampNeg)) (σ.1 6 p2.toNatClampNeg) p3 p4 p5 p6)]) ⟨hx, hb, hml, hown, hts⟩ (ih σ (p1 - ((p1 * (σ.1 7 p2.toNatClampNeg)) / (σ.1 8 p2.toNatClampNeg))) ((σ.1 6 p2.toNatClampNeg) + 1) p3 p4 p5 p6 (by assumption) (by assumption) (hm_2 hI hW hT hk c_79).2.1 (hm_2 hI hW hT hk c_79).2.2) (cwV 6 hts (gV ml_X7_158 im_X7_carried se_X7_carried in_X7 co_X7_carried) rfl rfl rfl (by decide +kernel) ⟨(show (3 + k) + 1 ≤ 3 + (k + 1) by omega), (show 8 + (9 + 11) + (73 + 28 * k) ≤ 73 + 28 * (k + 1) by omega)⟩) (preV hK hP (pos := 0) (ci := 7) rfl rfl) rfl rfl hl.1 rfl (lv_room (Nat.le_of_ble_eq_true rfl)) dX7_carried_138 ⟨Nat.zero_le _, Nat.zero_le _⟩) ?_
              refine lv_ladd hx hb dX7_carried_141 ?_
              exact W.lret (v := (fX7_carried k σ ((p1 * (σ.1 7 p2.toNatClampNeg)) / (σ.1 8 p2.toNatClampNeg)) (σ.1 6 p2.toNatClampNeg) p3 p4 p5 p6) + (fX7_carried k σ (p1 - ((p1 * (σ.1 7 p2.toNatClampNeg)) / (σ.1 8 p2.toNatClampNeg))) ((σ.1 6 p2.toNatClampNeg) + 1) p3 p4 p5 p6)) hx hb hr (fun t ht hW => ⟨_, rfl, (by rw [fX7_carried, if_pos c_8, if_neg c_46, if_neg c_57, if_pos c_79]), ht⟩) (fun _ h => absurd h List.not_mem_nil) dX7_carried_142
    · refine lv_iload hx hb dX7_carried_11 (lv_at hl 5 rfl) ?_
      refine lv_iconst (v := (-1)) hx hb dX7_carried_13 (by decide) ?_
      refine lv_icmp_eq (tgt := 37) hx hb dX7_carried_14 (by decide) (fun c_14 => ?_) (fun c_14 => ?_)
      · refine lv_lconst (v := 0) hx hb dX7_carried_37 (by decide) ?_
        exact W.lret (v := 0) hx hb hr (fun t ht hW => ⟨_, rfl, (by rw [fX7_carried, if_neg c_8, if_pos c_14]), ht⟩) (fun _ h => absurd h List.not_mem_nil) dX7_carried_38
      · refine lv_aload_n hx hb dX7_carried_17 rfl (lv_at hl 0 rfl) ?_
        refine lv_iload_n hx hb dX7_carried_18 rfl (lv_at hl 2 rfl) ?_
        refine lv_iload hx hb dX7_carried_19 (lv_at hl 5 rfl) ?_
        refine lv_iload_n hx hb dX7_carried_21 rfl (lv_at hl 3 rfl) ?_
        refine lv_iload hx hb dX7_carried_22 (lv_at hl 4 rfl) ?_
        refine xc_i (va_runV (As := [.int p2, .int p5, .int p3, .int p4]) (rest := []) ⟨hx, hb, hml, hown, hts⟩ (c_X7_valueOf l dC dI cI cJ q σ p2 p5 p3 p4 (by assumption)) (cwV 4 hts (gV ml_X7_131 im_X7_valueOf se_X7_valueOf in_X7 co_X7_valueOf) rfl rfl rfl (by decide +kernel) ⟨(show 2 + 1 ≤ 3 + (k + 1) by omega), (show 8 + (7 + 11) + 47 ≤ 73 + 28 * (k + 1) by omega)⟩) (preV hK hP (pos := 0) (ci := 7) rfl rfl) rfl rfl hl.1 rfl (lv_room (Nat.le_of_ble_eq_true rfl)) dX7_carried_24 ⟨Nat.zero_le _, Nat.zero_le _⟩) ?_
        refine lv_iload hx hb dX7_carried_27 (lv_at hl 6 rfl) ?_
        refine lv_icmp_ne (tgt := 37) hx hb dX7_carried_29 (by decide) (fun c_29 => ?_) (fun c_29 => ?_)
        · refine lv_lconst (v := 0) hx hb dX7_carried_37 (by decide) ?_
          exact W.lret (v := 0) hx hb hr (fun t ht hW => ⟨_, rfl, (by rw [fX7_carried, if_neg c_8, if_neg c_14, if_neg c_29]), ht⟩) (fun _ h => absurd h List.not_mem_nil) dX7_carried_38
        · refine lv_iload_n hx hb dX7_carried_32 rfl (lv_at hl 1 rfl) ?_
          refine lv_i2l (v := p1.toInt64) hx hb dX7_carried_33 rfl ?_
          refine lv_goto (tgt := 38) hx hb dX7_carried_34 (by decide) ?_
          exact W.lret (v := p1.toInt64) hx hb hr (fun t ht hW => ⟨_, rfl, (by rw [fX7_carried, if_neg c_8, if_neg c_14, if_pos c_29]), ht⟩) (fun _ h => absurd h List.not_mem_nil) dX7_carried_38

def flX7_allCarried_6 (σ : St) (p1 : Int32) (p2 : Int32) (p3 : Int32) (p4 : Int32) : Nat → Nat → Int64 → Int64
  | 0, i, tot => tot
  | k + 1, i, tot => (if (fX7_isKnown σ (σ.1 18 ((nI i).toNatClampNeg)) (σ.1 19 ((nI i).toNatClampNeg)) p2) = 0 then flX7_allCarried_6 σ p1 p2 p3 p4 k (i + 1) tot else (if (fX7_living σ (σ.1 15 ((nI i).toNatClampNeg)) (σ.1 16 ((nI i).toNatClampNeg)) p2) = (-1) then flX7_allCarried_6 σ p1 p2 p3 p4 k (i + 1) tot else flX7_allCarried_6 σ p1 p2 p3 p4 k (i + 1) (tot + (fX7_carried 40 σ (σ.1 17 i) (fX7_living σ (σ.1 15 ((nI i).toNatClampNeg)) (σ.1 16 ((nI i).toNatClampNeg)) p2) p1 p2 p3 p4))))
def fX7_allCarried (σ : St) (p1 : Int32) (p2 : Int32) (p3 : Int32) (p4 : Int32) : Int64 :=
  flX7_allCarried_6 σ p1 p2 p3 p4 ((σ.2.1 2).toNatClampNeg) 0 0
set_option maxHeartbeats 4000000 in
set_option maxRecDepth 100000 in
theorem c_X7_allCarried (l : Launch) (dC : Nat → ClassId) (dI : Nat → Nat → Nat) (cI cJ : ClassId) (q : Nat → Nat) (σ : St) (p1 : Int32) (p2 : Int32) (p3 : Int32) (p4 : Int32) (hI : IB σ) (hW : HM σ) : Met l yX7_allCarried (.code yX7_allCarried cX7_allCarried 9 (some .long) :: tb) { frames := 44, cells := 0, slots := 0, locals := 1221 } (Pu (dC, dI) (tyC cI cJ) (wM cI cJ q σ) [.ref (q 0), .int p1, .int p2, .int p3, .int p4]) (vp_Sl (fun r => r = fX7_allCarried σ p1 p2 p3 p4)) 0 0 (fun _ => False) := by
  refine Met.ofW (cc := cX7_allCarried) (maxL := 9) (ret := (some .long)) (by decide) rfl ?_
  intro p e s m args below meth c s₁ B hml hv
  obtain ⟨rfl, hP, hK⟩ := hv
  have hx := B.exec
  have hb := B.bytes
  have hr := B.returns
  have hts0 := atoms_spec (ws := .code yX7_allCarried cX7_allCarried 9 (some .long) :: tb) B.pre
  have hts : ∀ w ∈ tb, w.before _ s = true := fun w hw => hts0 w (List.mem_cons_of_mem _ hw)
  have hown : s.vm.findClass RX7 = some m.cls := findClass_of_methodNamed B.named
  have hlocks := B.notSynchronized
  have hl := lv_entry ([.ref (q 0), .int p1, .int p2, .int p3, .int p4]) (n := 9) (Nat.le_of_ble_eq_true rfl)
  rw [lg_entry_eq]
  generalize (lg_sl ([.ref (q 0), .int p1, .int p2, .int p3, .int p4]) ++ List.replicate (9 - (lg_sl ([.ref (q 0), .int p1, .int p2, .int p3, .int p4])).length) Slot.unset).toArray = ls at hl ⊢
  have hl : lv_has ls 9 [(0, .ref (q 0)), (1, .int p1), (2, .int p2), (3, .int p3), (4, .int p4)] := hl
  refine lv_lconst (v := 0) hx hb dX7_allCarried_0 (by decide) ?_
  refine lv_lstore (lv' := [(5, .long 0), (0, .ref (q 0)), (1, .int p1), (2, .int p2), (3, .int p3), (4, .int p4)]) hx hb dX7_allCarried_1 hl (by decide) rfl (fun ls hl => ?_)
  refine lv_iconst (v := 0) hx hb dX7_allCarried_3 (by decide) ?_
  refine lv_istore (lv' := [(7, .int 0), (5, .long 0), (0, .ref (q 0)), (1, .int p1), (2, .int p2), (3, .int p3), (4, .int p4)]) hx hb dX7_allCarried_4 hl (by decide) rfl (fun ls hl => ?_)
  have hz : szI (σ.2.1 2) 200 := hI.2.1
  have hz2 := hz.2
  have loop_6 : ∀ (k i : Nat) (tot : Int64), i + k = (σ.2.1 2).toNatClampNeg → fX7_allCarried σ p1 p2 p3 p4 = flX7_allCarried_6 σ p1 p2 p3 p4 k i tot → ∀ (ls : Array Slot), lv_has ls 9 [(0, .ref (q 0)), (1, .int p1), (2, .int p2), (3, .int p3), (4, .int p4), (7, .int (nI i)), (5, .long tot)] → W p l e (headSpec (.code yX7_allCarried cX7_allCarried 9 (some .long) :: tb) { frames := 44, cells := 0, slots := 0, locals := 1221 }).room s m (List.toArray [.ref (q 0), .int p1, .int p2, .int p3, .int p4]) below meth c s.heap [] 0 0 (MQ below (vp_Sl (fun r => r = fX7_allCarried σ p1 p2 p3 p4)) (List.toArray [.ref (q 0), .int p1, .int p2, .int p3, .int p4]) s 0 0 (fun _ => False)) (F0 m 6 ls []) := by
    intro k
    induction k with
    | zero =>
      intro i tot hik hE ls hl
      refine lv_iload hx hb dX7_allCarried_6 (lv_at hl 5 rfl) ?_
      refine lv_aload_n hx hb dX7_allCarried_8 rfl (lv_at hl 0 rfl) ?_
      refine va_get (D := (dC, dI)) (ci := 7) (v := .int (σ.2.1 2)) (C := RX7) (T := TX7) (N := 26) hx hb hts inX7 hown hK hP 0 rfl rfl 2 (by decide) (hts _ fl_X7_142) (fun _ h9 => h9) rfl dX7_allCarried_9 ?_
      refine lv_icmp_ge (tgt := 72) hx hb dX7_allCarried_12 (by decide) (fun c_12 => ?_) (fun c_12 => ?_)
      · refine lv_lload hx hb dX7_allCarried_72 (lv_at hl 6 rfl) ?_
        exact W.lret (v := tot) hx hb hr (fun t ht hW => ⟨_, rfl, (by rw [hE, flX7_allCarried_6]), ht⟩) (fun _ h => absurd h List.not_mem_nil) dX7_allCarried_74
      · exact absurd (by rw [hz.1]; exact nI_le (by omega) (by omega)) c_12
    | succ k ih =>
      intro i tot hik hE ls hl
      refine lv_iload hx hb dX7_allCarried_6 (lv_at hl 5 rfl) ?_
      refine lv_aload_n hx hb dX7_allCarried_8 rfl (lv_at hl 0 rfl) ?_
      refine va_get (D := (dC, dI)) (ci := 7) (v := .int (σ.2.1 2)) (C := RX7) (T := TX7) (N := 26) hx hb hts inX7 hown hK hP 0 rfl rfl 2 (by decide) (hts _ fl_X7_142) (fun _ h9 => h9) rfl dX7_allCarried_9 ?_
      refine lv_icmp_ge (tgt := 72) hx hb dX7_allCarried_12 (by decide) (fun c_12 => ?_) (fun c_12 => ?_)
      · exact absurd c_12 (by rw [hz.1]; exact nI_ge (by omega) (by omega))
      · refine lv_aload_n hx hb dX7_allCarried_15 rfl (lv_at hl 0 rfl) ?_
        refine lv_iload hx hb dX7_allCarried_16 (lv_at hl 5 rfl) ?_
        refine lv_iload_n hx hb dX7_allCarried_18 rfl (lv_at hl 2 rfl) ?_
        refine xc_i (va_runV (As := [.int (nI i), .int p2]) (rest := []) ⟨hx, hb, hml, hown, hts⟩ (c_X7_isFact l dC dI cI cJ q σ (nI i) p2 (by assumption) (vp_in_nI (by omega) (by omega))) (cwV 2 hts (gV ml_X7_149 im_X7_isFact se_X7_isFact in_X7 co_X7_isFact) rfl rfl rfl (by decide +kernel) ⟨Nat.le_of_ble_eq_true rfl, Nat.le_of_ble_eq_true rfl⟩) (preV hK hP (pos := 0) (ci := 7) rfl rfl) rfl rfl hl.1 rfl (lv_room (Nat.le_of_ble_eq_true rfl)) dX7_allCarried_19 ⟨Nat.zero_le _, Nat.zero_le _⟩) ?_
        refine lv_if_ne (tgt := 28) hx hb dX7_allCarried_22 (by decide) (fun c_22 => ?_) (fun c_22 => ?_)
        · refine lv_aload_n hx hb dX7_allCarried_28 rfl (lv_at hl 0 rfl) ?_
          refine lv_iload hx hb dX7_allCarried_29 (lv_at hl 5 rfl) ?_
          refine lv_iload_n hx hb dX7_allCarried_31 rfl (lv_at hl 2 rfl) ?_
          refine xc_i (va_runV (As := [.int (nI i), .int p2]) (rest := []) ⟨hx, hb, hml, hown, hts⟩ (c_X7_thingOf l dC dI cI cJ q σ (nI i) p2 (by assumption) (vp_in_nI (by omega) (by decide))) (cwV 2 hts (gV ml_X7_152 im_X7_thingOf se_X7_thingOf in_X7 co_X7_thingOf) rfl rfl rfl (by decide +kernel) ⟨Nat.le_of_ble_eq_true rfl, Nat.le_of_ble_eq_true rfl⟩) (preV hK hP (pos := 0) (ci := 7) rfl rfl) rfl rfl hl.1 rfl (lv_room (Nat.le_of_ble_eq_true rfl)) dX7_allCarried_32 ⟨Nat.zero_le _, Nat.zero_le _⟩) ?_
          refine lv_istore (lv' := [(8, .int (fX7_living σ (σ.1 15 ((nI i).toNatClampNeg)) (σ.1 16 ((nI i).toNatClampNeg)) p2)), (0, .ref (q 0)), (1, .int p1), (2, .int p2), (3, .int p3), (4, .int p4), (7, .int (nI i)), (5, .long tot)]) hx hb dX7_allCarried_35 hl (by decide) rfl (fun ls hl => ?_)
          refine lv_iload hx hb dX7_allCarried_37 (lv_at hl 0 rfl) ?_
          refine lv_iconst (v := (-1)) hx hb dX7_allCarried_39 (by decide) ?_
          refine lv_icmp_eq (tgt := 66) hx hb dX7_allCarried_40 (by decide) (fun c_40 => ?_) (fun c_40 => ?_)
          · refine lv_iinc (v := nI (i + 1)) (lv' := [(7, .int (nI (i + 1))), (8, .int (fX7_living σ (σ.1 15 ((nI i).toNatClampNeg)) (σ.1 16 ((nI i).toNatClampNeg)) p2)), (0, .ref (q 0)), (1, .int p1), (2, .int p2), (3, .int p3), (4, .int p4), (5, .long tot)]) hx hb dX7_allCarried_66 hl (k := 6) rfl (nI_1 i) (by decide) rfl (fun ls hl => ?_)
            refine lv_goto (tgt := 6) hx hb dX7_allCarried_69 (by decide) ?_
            exact ih (i + 1) tot (by omega) (by rw [hE, flX7_allCarried_6, if_neg c_22, if_pos c_40]) ls (lv_sub hl [2, 3, 4, 5, 6, 0, 7] rfl)
          · refine lv_lload hx hb dX7_allCarried_43 (lv_at hl 7 rfl) ?_
            refine lv_aload_n hx hb dX7_allCarried_45 rfl (lv_at hl 1 rfl) ?_
            refine lv_aload_n hx hb dX7_allCarried_46 rfl (lv_at hl 1 rfl) ?_
            refine va_get (D := (dC, dI)) (ci := 7) (v := .ref (q 12)) (C := RX7) (T := TX7) (N := 26) hx hb hts inX7 hown hK hP 0 rfl rfl 16 (by decide) (hts _ fl_X7_43) (fun _ h9 => h9) rfl dX7_allCarried_47 ?_
            refine lv_iload hx hb dX7_allCarried_50 (lv_at hl 6 rfl) ?_
            refine xa_ild hx hb hK hP 12 0 rfl rfl (by omega) (by decide) dX7_allCarried_52 ?_
            refine lv_iload hx hb dX7_allCarried_53 (lv_at hl 0 rfl) ?_
            refine lv_iload_n hx hb dX7_allCarried_55 rfl (lv_at hl 2 rfl) ?_
            refine lv_iload_n hx hb dX7_allCarried_56 rfl (lv_at hl 3 rfl) ?_
            refine lv_iload_n hx hb dX7_allCarried_57 rfl (lv_at hl 4 rfl) ?_
            refine lv_iload hx hb dX7_allCarried_58 (lv_at hl 5 rfl) ?_
            refine xc_l (va_runV (As := [.int (σ.1 17 i), .int (fX7_living σ (σ.1 15 ((nI i).toNatClampNeg)) (σ.1 16 ((nI i).toNatClampNeg)) p2), .int p1, .int p2, .int p3, .int p4]) (rest := [.long tot]) ⟨hx, hb, hml, hown, hts⟩ (c_X7_carried l dC dI cI cJ q 40 σ (σ.1 17 i) (fX7_living σ (σ.1 15 ((nI i).toNatClampNeg)) (σ.1 16 ((nI i).toNatClampNeg)) p2) p1 p2 p3 p4 hI hW (living_in hI c_40) (by have := hI.1.2; omega)) (cwV 6 hts (gV ml_X7_158 im_X7_carried se_X7_carried in_X7 co_X7_carried) rfl rfl rfl (by decide +kernel) ⟨Nat.le_of_ble_eq_true rfl, Nat.le_of_ble_eq_true rfl⟩) (preV hK hP (pos := 0) (ci := 7) rfl rfl) rfl rfl hl.1 rfl (lv_room (Nat.le_of_ble_eq_true rfl)) dX7_allCarried_60 ⟨Nat.zero_le _, Nat.zero_le _⟩) ?_
            refine lv_ladd hx hb dX7_allCarried_63 ?_
            refine lv_lstore (lv' := [(5, .long (tot + (fX7_carried 40 σ (σ.1 17 i) (fX7_living σ (σ.1 15 ((nI i).toNatClampNeg)) (σ.1 16 ((nI i).toNatClampNeg)) p2) p1 p2 p3 p4))), (8, .int (fX7_living σ (σ.1 15 ((nI i).toNatClampNeg)) (σ.1 16 ((nI i).toNatClampNeg)) p2)), (0, .ref (q 0)), (1, .int p1), (2, .int p2), (3, .int p3), (4, .int p4), (7, .int (nI i))]) hx hb dX7_allCarried_64 hl (by decide) rfl (fun ls hl => ?_)
            refine lv_iinc (v := nI (i + 1)) (lv' := [(7, .int (nI (i + 1))), (5, .long (tot + (fX7_carried 40 σ (σ.1 17 i) (fX7_living σ (σ.1 15 ((nI i).toNatClampNeg)) (σ.1 16 ((nI i).toNatClampNeg)) p2) p1 p2 p3 p4))), (8, .int (fX7_living σ (σ.1 15 ((nI i).toNatClampNeg)) (σ.1 16 ((nI i).toNatClampNeg)) p2)), (0, .ref (q 0)), (1, .int p1), (2, .int p2), (3, .int p3), (4, .int p4)]) hx hb dX7_allCarried_66 hl (k := 7) rfl (nI_1 i) (by decide) rfl (fun ls hl => ?_)
            refine lv_goto (tgt := 6) hx hb dX7_allCarried_69 (by decide) ?_
            exact ih (i + 1) (tot + (fX7_carried 40 σ (σ.1 17 i) (fX7_living σ (σ.1 15 ((nI i).toNatClampNeg)) (σ.1 16 ((nI i).toNatClampNeg)) p2) p1 p2 p3 p4)) (by omega) (by rw [hE, flX7_allCarried_6, if_neg c_22, if_neg c_40]) ls (lv_sub hl [3, 4, 5, 6, 7, 0, 1] rfl)
        · refine lv_goto (tgt := 66) hx hb dX7_allCarried_25 (by decide) ?_
          refine lv_iinc (v := nI (i + 1)) (lv' := [(7, .int (nI (i + 1))), (0, .ref (q 0)), (1, .int p1), (2, .int p2), (3, .int p3), (4, .int p4), (5, .long tot)]) hx hb dX7_allCarried_66 hl (k := 5) rfl (nI_1 i) (by decide) rfl (fun ls hl => ?_)
          refine lv_goto (tgt := 6) hx hb dX7_allCarried_69 (by decide) ?_
          exact ih (i + 1) tot (by omega) (by rw [hE, flX7_allCarried_6, if_pos c_22]) ls (lv_sub hl [1, 2, 3, 4, 5, 0, 6] rfl)
  exact loop_6 ((σ.2.1 2).toNatClampNeg) 0 0 (by rw [Nat.zero_add]) (by rw [fX7_allCarried]) ls (lv_sub hl [2, 3, 4, 5, 6, 0, 1] rfl)

def fX7_by (σ : St) (p1 : Int32) (p2 : Int32) (p3 : Int32) (p4 : Int32) : Int64 :=
  (if (fX7_isAsked σ p1 p2 p4) = 0 then 0 else (if (fX7_isIn σ p3 0 2000) = 0 then 0 else fX7_allCarried σ p3 p4 p1 p2))
set_option maxHeartbeats 4000000 in
set_option maxRecDepth 100000 in
theorem c_X7_by (l : Launch) (dC : Nat → ClassId) (dI : Nat → Nat → Nat) (cI cJ : ClassId) (q : Nat → Nat) (σ : St) (p1 : Int32) (p2 : Int32) (p3 : Int32) (p4 : Int32) (hI : IB σ) (hW : HM σ) : Met l yX7_by (.code yX7_by cX7_by 5 (some .long) :: tb) { frames := 45, cells := 0, slots := 0, locals := 1249 } (Pu (dC, dI) (tyC cI cJ) (wM cI cJ q σ) [.ref (q 0), .int p1, .int p2, .int p3, .int p4]) (vp_Sl (fun r => r = fX7_by σ p1 p2 p3 p4)) 0 0 (fun _ => False) := by
  refine Met.ofW (cc := cX7_by) (maxL := 5) (ret := (some .long)) (by decide) rfl ?_
  intro p e s m args below meth c s₁ B hml hv
  obtain ⟨rfl, hP, hK⟩ := hv
  have hx := B.exec
  have hb := B.bytes
  have hr := B.returns
  have hts0 := atoms_spec (ws := .code yX7_by cX7_by 5 (some .long) :: tb) B.pre
  have hts : ∀ w ∈ tb, w.before _ s = true := fun w hw => hts0 w (List.mem_cons_of_mem _ hw)
  have hown : s.vm.findClass RX7 = some m.cls := findClass_of_methodNamed B.named
  have hlocks := B.notSynchronized
  have hl := lv_entry ([.ref (q 0), .int p1, .int p2, .int p3, .int p4]) (n := 5) (Nat.le_of_ble_eq_true rfl)
  rw [lg_entry_eq]
  generalize (lg_sl ([.ref (q 0), .int p1, .int p2, .int p3, .int p4]) ++ List.replicate (5 - (lg_sl ([.ref (q 0), .int p1, .int p2, .int p3, .int p4])).length) Slot.unset).toArray = ls at hl ⊢
  have hl : lv_has ls 5 [(0, .ref (q 0)), (1, .int p1), (2, .int p2), (3, .int p3), (4, .int p4)] := hl
  refine lv_aload_n hx hb dX7_by_0 rfl (lv_at hl 0 rfl) ?_
  refine lv_iload_n hx hb dX7_by_1 rfl (lv_at hl 1 rfl) ?_
  refine lv_iload_n hx hb dX7_by_2 rfl (lv_at hl 2 rfl) ?_
  refine lv_iload hx hb dX7_by_3 (lv_at hl 4 rfl) ?_
  refine xc_i (va_runV (As := [.int p1, .int p2, .int p4]) (rest := []) ⟨hx, hb, hml, hown, hts⟩ (c_X7_isAsked l dC dI cI cJ q σ p1 p2 p4) (cwV 3 hts (gV ml_X7_155 im_X7_isAsked se_X7_isAsked in_X7 co_X7_isAsked) rfl rfl rfl (by decide +kernel) ⟨Nat.le_of_ble_eq_true rfl, Nat.le_of_ble_eq_true rfl⟩) (preV hK hP (pos := 0) (ci := 7) rfl rfl) rfl rfl hl.1 rfl (lv_room (Nat.le_of_ble_eq_true rfl)) dX7_by_5 ⟨Nat.zero_le _, Nat.zero_le _⟩) ?_
  refine lv_if_eq (tgt := 30) hx hb dX7_by_8 (by decide) (fun c_8 => ?_) (fun c_8 => ?_)
  · refine lv_lconst (v := 0) hx hb dX7_by_30 (by decide) ?_
    exact W.lret (v := 0) hx hb hr (fun t ht hW => ⟨_, rfl, (by rw [fX7_by, if_pos c_8]), ht⟩) (fun _ h => absurd h List.not_mem_nil) dX7_by_31
  · refine lv_iload_n hx hb dX7_by_11 rfl (lv_at hl 3 rfl) ?_
    refine xc_i (va_runS (As := [.int p3]) (rest := []) ⟨hx, hb, hml, hown, hts⟩ (c_X7_isDay l dC dI cI cJ q σ p3) (va_cwS 1 hts (gS ml_X7_95 st_X7_isDay in_X7 co_X7_isDay) rfl rfl rfl (by decide +kernel) ⟨Nat.le_of_ble_eq_true rfl, Nat.le_of_ble_eq_true rfl⟩) (preS hK hP) rfl rfl hl.1 rfl (lv_room (Nat.le_of_ble_eq_true rfl)) dX7_by_12 ⟨Nat.zero_le _, Nat.zero_le _⟩) ?_
    refine lv_if_eq (tgt := 30) hx hb dX7_by_15 (by decide) (fun c_15 => ?_) (fun c_15 => ?_)
    · refine lv_lconst (v := 0) hx hb dX7_by_30 (by decide) ?_
      exact W.lret (v := 0) hx hb hr (fun t ht hW => ⟨_, rfl, (by rw [fX7_by, if_neg c_8, if_pos c_15]), ht⟩) (fun _ h => absurd h List.not_mem_nil) dX7_by_31
    · refine lv_aload_n hx hb dX7_by_18 rfl (lv_at hl 0 rfl) ?_
      refine lv_iload_n hx hb dX7_by_19 rfl (lv_at hl 3 rfl) ?_
      refine lv_iload hx hb dX7_by_20 (lv_at hl 4 rfl) ?_
      refine lv_iload_n hx hb dX7_by_22 rfl (lv_at hl 1 rfl) ?_
      refine lv_iload_n hx hb dX7_by_23 rfl (lv_at hl 2 rfl) ?_
      refine xc_l (va_runV (As := [.int p3, .int p4, .int p1, .int p2]) (rest := []) ⟨hx, hb, hml, hown, hts⟩ (c_X7_allCarried l dC dI cI cJ q σ p3 p4 p1 p2 (by assumption) (by assumption)) (cwV 4 hts (gV ml_X7_162 im_X7_allCarried se_X7_allCarried in_X7 co_X7_allCarried) rfl rfl rfl (by decide +kernel) ⟨Nat.le_of_ble_eq_true rfl, Nat.le_of_ble_eq_true rfl⟩) (preV hK hP (pos := 0) (ci := 7) rfl rfl) rfl rfl hl.1 rfl (lv_room (Nat.le_of_ble_eq_true rfl)) dX7_by_24 ⟨Nat.zero_le _, Nat.zero_le _⟩) ?_
      refine lv_goto (tgt := 31) hx hb dX7_by_27 (by decide) ?_
      exact W.lret (v := fX7_allCarried σ p3 p4 p1 p2) hx hb hr (fun t ht hW => ⟨_, rfl, (by rw [fX7_by, if_neg c_8, if_neg c_15]), ht⟩) (fun _ h => absurd h List.not_mem_nil) dX7_by_31

def flX7_sum_45 (σ : St) (p1 : Int32) (p2 : Int32) (p3 : Int32) : Nat → Nat → Int64 → Int64
  | 0, i, tot => tot
  | k + 1, i, tot => (if (fX7_isKnown σ (σ.1 18 ((nI i).toNatClampNeg)) (σ.1 19 ((nI i).toNatClampNeg)) p3) = 0 then flX7_sum_45 σ p1 p2 p3 k (i + 1) (tot + 0) else (if p1 = 0 then flX7_sum_45 σ p1 p2 p3 k (i + 1) (tot + ((σ.1 17 i).toInt64)) else (if (fX7_living σ (σ.1 15 ((nI i).toNatClampNeg)) (σ.1 16 ((nI i).toNatClampNeg)) p3) = (-1) then flX7_sum_45 σ p1 p2 p3 k (i + 1) (tot + ((σ.1 17 i).toInt64)) else flX7_sum_45 σ p1 p2 p3 k (i + 1) (tot + 0))))
def fX7_sum (σ : St) (p1 : Int32) (p2 : Int32) (p3 : Int32) : Int64 :=
  (if (fX7_isIn σ p1 0 2) = 0 then 0 else (if (fX7_isIn σ p2 0 2000) = 0 then 0 else (if (fX7_isIn σ p3 0 2000) = 0 then 0 else (if p1 = 2 then fX7_allCarried σ p2 p3 (-1) 0 else flX7_sum_45 σ p1 p2 p3 ((σ.2.1 2).toNatClampNeg) 0 0))))
set_option maxHeartbeats 4000000 in
set_option maxRecDepth 100000 in
theorem c_X7_sum (l : Launch) (dC : Nat → ClassId) (dI : Nat → Nat → Nat) (cI cJ : ClassId) (q : Nat → Nat) (σ : St) (p1 : Int32) (p2 : Int32) (p3 : Int32) (hI : IB σ) (hW : HM σ) : Met l yX7_sum (.code yX7_sum cX7_sum 7 (some .long) :: tb) { frames := 45, cells := 0, slots := 0, locals := 1249 } (Pu (dC, dI) (tyC cI cJ) (wM cI cJ q σ) [.ref (q 0), .int p1, .int p2, .int p3]) (vp_Sl (fun r => r = fX7_sum σ p1 p2 p3)) 0 0 (fun _ => False) := by
  refine Met.ofW (cc := cX7_sum) (maxL := 7) (ret := (some .long)) (by decide) rfl ?_
  intro p e s m args below meth c s₁ B hml hv
  obtain ⟨rfl, hP, hK⟩ := hv
  have hx := B.exec
  have hb := B.bytes
  have hr := B.returns
  have hts0 := atoms_spec (ws := .code yX7_sum cX7_sum 7 (some .long) :: tb) B.pre
  have hts : ∀ w ∈ tb, w.before _ s = true := fun w hw => hts0 w (List.mem_cons_of_mem _ hw)
  have hown : s.vm.findClass RX7 = some m.cls := findClass_of_methodNamed B.named
  have hlocks := B.notSynchronized
  have hl := lv_entry ([.ref (q 0), .int p1, .int p2, .int p3]) (n := 7) (Nat.le_of_ble_eq_true rfl)
  rw [lg_entry_eq]
  generalize (lg_sl ([.ref (q 0), .int p1, .int p2, .int p3]) ++ List.replicate (7 - (lg_sl ([.ref (q 0), .int p1, .int p2, .int p3])).length) Slot.unset).toArray = ls at hl ⊢
  have hl : lv_has ls 7 [(0, .ref (q 0)), (1, .int p1), (2, .int p2), (3, .int p3)] := hl
  refine lv_iload_n hx hb dX7_sum_0 rfl (lv_at hl 1 rfl) ?_
  refine lv_iconst (v := 0) hx hb dX7_sum_1 (by decide) ?_
  refine lv_iconst (v := 2) hx hb dX7_sum_2 (by decide) ?_
  refine xc_i (va_runS (As := [.int p1, .int 0, .int 2]) (rest := []) ⟨hx, hb, hml, hown, hts⟩ (c_X7_isIn l dC dI cI cJ q σ p1 0 2) (va_cwS 3 hts (gS ml_X7_73 st_X7_isIn in_X7 co_X7_isIn) rfl rfl rfl (by decide +kernel) ⟨Nat.le_of_ble_eq_true rfl, Nat.le_of_ble_eq_true rfl⟩) (preS hK hP) rfl rfl hl.1 rfl (lv_room (Nat.le_of_ble_eq_true rfl)) dX7_sum_3 ⟨Nat.zero_le _, Nat.zero_le _⟩) ?_
  refine lv_if_eq (tgt := 23) hx hb dX7_sum_6 (by decide) (fun c_6 => ?_) (fun c_6 => ?_)
  · refine lv_lconst (v := 0) hx hb dX7_sum_23 (by decide) ?_
    exact W.lret (v := 0) hx hb hr (fun t ht hW => ⟨_, rfl, (by rw [fX7_sum, if_pos c_6]), ht⟩) (fun _ h => absurd h List.not_mem_nil) dX7_sum_24
  · refine lv_iload_n hx hb dX7_sum_9 rfl (lv_at hl 2 rfl) ?_
    refine xc_i (va_runS (As := [.int p2]) (rest := []) ⟨hx, hb, hml, hown, hts⟩ (c_X7_isDay l dC dI cI cJ q σ p2) (va_cwS 1 hts (gS ml_X7_95 st_X7_isDay in_X7 co_X7_isDay) rfl rfl rfl (by decide +kernel) ⟨Nat.le_of_ble_eq_true rfl, Nat.le_of_ble_eq_true rfl⟩) (preS hK hP) rfl rfl hl.1 rfl (lv_room (Nat.le_of_ble_eq_true rfl)) dX7_sum_10 ⟨Nat.zero_le _, Nat.zero_le _⟩) ?_
    refine lv_if_eq (tgt := 23) hx hb dX7_sum_13 (by decide) (fun c_13 => ?_) (fun c_13 => ?_)
    · refine lv_lconst (v := 0) hx hb dX7_sum_23 (by decide) ?_
      exact W.lret (v := 0) hx hb hr (fun t ht hW => ⟨_, rfl, (by rw [fX7_sum, if_neg c_6, if_pos c_13]), ht⟩) (fun _ h => absurd h List.not_mem_nil) dX7_sum_24
    · refine lv_iload_n hx hb dX7_sum_16 rfl (lv_at hl 3 rfl) ?_
      refine xc_i (va_runS (As := [.int p3]) (rest := []) ⟨hx, hb, hml, hown, hts⟩ (c_X7_isDay l dC dI cI cJ q σ p3) (va_cwS 1 hts (gS ml_X7_95 st_X7_isDay in_X7 co_X7_isDay) rfl rfl rfl (by decide +kernel) ⟨Nat.le_of_ble_eq_true rfl, Nat.le_of_ble_eq_true rfl⟩) (preS hK hP) rfl rfl hl.1 rfl (lv_room (Nat.le_of_ble_eq_true rfl)) dX7_sum_17 ⟨Nat.zero_le _, Nat.zero_le _⟩) ?_
      refine lv_if_ne (tgt := 25) hx hb dX7_sum_20 (by decide) (fun c_20 => ?_) (fun c_20 => ?_)
      · refine lv_iload_n hx hb dX7_sum_25 rfl (lv_at hl 1 rfl) ?_
        refine lv_iconst (v := 2) hx hb dX7_sum_26 (by decide) ?_
        refine lv_icmp_ne (tgt := 39) hx hb dX7_sum_27 (by decide) (fun c_27 => ?_) (fun c_27 => ?_)
        · refine lv_lconst (v := 0) hx hb dX7_sum_39 (by decide) ?_
          refine lv_lstore (lv' := [(4, .long 0), (0, .ref (q 0)), (1, .int p1), (2, .int p2), (3, .int p3)]) hx hb dX7_sum_40 hl (by decide) rfl (fun ls hl => ?_)
          refine lv_iconst (v := 0) hx hb dX7_sum_42 (by decide) ?_
          refine lv_istore (lv' := [(6, .int 0), (4, .long 0), (0, .ref (q 0)), (1, .int p1), (2, .int p2), (3, .int p3)]) hx hb dX7_sum_43 hl (by decide) rfl (fun ls hl => ?_)
          have hz : szI (σ.2.1 2) 200 := hI.2.1
          have hz2 := hz.2
          have loop_45 : ∀ (k i : Nat) (tot : Int64), i + k = (σ.2.1 2).toNatClampNeg → fX7_sum σ p1 p2 p3 = flX7_sum_45 σ p1 p2 p3 k i tot → ∀ (ls : Array Slot), lv_has ls 7 [(0, .ref (q 0)), (1, .int p1), (2, .int p2), (3, .int p3), (6, .int (nI i)), (4, .long tot)] → W p l e (headSpec (.code yX7_sum cX7_sum 7 (some .long) :: tb) { frames := 45, cells := 0, slots := 0, locals := 1249 }).room s m (List.toArray [.ref (q 0), .int p1, .int p2, .int p3]) below meth c s.heap [] 0 0 (MQ below (vp_Sl (fun r => r = fX7_sum σ p1 p2 p3)) (List.toArray [.ref (q 0), .int p1, .int p2, .int p3]) s 0 0 (fun _ => False)) (F0 m 45 ls []) := by
            intro k
            induction k with
            | zero =>
              intro i tot hik hE ls hl
              refine lv_iload hx hb dX7_sum_45 (lv_at hl 4 rfl) ?_
              refine lv_aload_n hx hb dX7_sum_47 rfl (lv_at hl 0 rfl) ?_
              refine va_get (D := (dC, dI)) (ci := 7) (v := .int (σ.2.1 2)) (C := RX7) (T := TX7) (N := 26) hx hb hts inX7 hown hK hP 0 rfl rfl 2 (by decide) (hts _ fl_X7_142) (fun _ h9 => h9) rfl dX7_sum_48 ?_
              refine lv_icmp_ge (tgt := 102) hx hb dX7_sum_51 (by decide) (fun c_51 => ?_) (fun c_51 => ?_)
              · refine lv_lload hx hb dX7_sum_102 (lv_at hl 5 rfl) ?_
                exact W.lret (v := tot) hx hb hr (fun t ht hW => ⟨_, rfl, (by rw [hE, flX7_sum_45]), ht⟩) (fun _ h => absurd h List.not_mem_nil) dX7_sum_104
              · exact absurd (by rw [hz.1]; exact nI_le (by omega) (by omega)) c_51
            | succ k ih =>
              intro i tot hik hE ls hl
              refine lv_iload hx hb dX7_sum_45 (lv_at hl 4 rfl) ?_
              refine lv_aload_n hx hb dX7_sum_47 rfl (lv_at hl 0 rfl) ?_
              refine va_get (D := (dC, dI)) (ci := 7) (v := .int (σ.2.1 2)) (C := RX7) (T := TX7) (N := 26) hx hb hts inX7 hown hK hP 0 rfl rfl 2 (by decide) (hts _ fl_X7_142) (fun _ h9 => h9) rfl dX7_sum_48 ?_
              refine lv_icmp_ge (tgt := 102) hx hb dX7_sum_51 (by decide) (fun c_51 => ?_) (fun c_51 => ?_)
              · exact absurd c_51 (by rw [hz.1]; exact nI_ge (by omega) (by omega))
              · refine lv_lload hx hb dX7_sum_54 (lv_at hl 5 rfl) ?_
                refine lv_aload_n hx hb dX7_sum_56 rfl (lv_at hl 0 rfl) ?_
                refine lv_iload hx hb dX7_sum_57 (lv_at hl 4 rfl) ?_
                refine lv_iload_n hx hb dX7_sum_59 rfl (lv_at hl 3 rfl) ?_
                refine xc_i (va_runV (As := [.int (nI i), .int p3]) (rest := [.long tot]) ⟨hx, hb, hml, hown, hts⟩ (c_X7_isFact l dC dI cI cJ q σ (nI i) p3 (by assumption) (vp_in_nI (by omega) (by omega))) (cwV 2 hts (gV ml_X7_149 im_X7_isFact se_X7_isFact in_X7 co_X7_isFact) rfl rfl rfl (by decide +kernel) ⟨Nat.le_of_ble_eq_true rfl, Nat.le_of_ble_eq_true rfl⟩) (preV hK hP (pos := 0) (ci := 7) rfl rfl) rfl rfl hl.1 rfl (lv_room (Nat.le_of_ble_eq_true rfl)) dX7_sum_60 ⟨Nat.zero_le _, Nat.zero_le _⟩) ?_
                refine lv_if_eq (tgt := 92) hx hb dX7_sum_63 (by decide) (fun c_63 => ?_) (fun c_63 => ?_)
                · refine lv_lconst (v := 0) hx hb dX7_sum_92 (by decide) ?_
                  refine lv_ladd hx hb dX7_sum_93 ?_
                  refine lv_lstore (lv' := [(4, .long (tot + 0)), (0, .ref (q 0)), (1, .int p1), (2, .int p2), (3, .int p3), (6, .int (nI i))]) hx hb dX7_sum_94 hl (by decide) rfl (fun ls hl => ?_)
                  refine lv_iinc (v := nI (i + 1)) (lv' := [(6, .int (nI (i + 1))), (4, .long (tot + 0)), (0, .ref (q 0)), (1, .int p1), (2, .int p2), (3, .int p3)]) hx hb dX7_sum_96 hl (k := 5) rfl (nI_1 i) (by decide) rfl (fun ls hl => ?_)
                  refine lv_goto (tgt := 45) hx hb dX7_sum_99 (by decide) ?_
                  exact ih (i + 1) (tot + 0) (by omega) (by rw [hE, flX7_sum_45, if_pos c_63]) ls (lv_sub hl [2, 3, 4, 5, 0, 1] rfl)
                · refine lv_iload_n hx hb dX7_sum_66 rfl (lv_at hl 1 rfl) ?_
                  refine lv_if_eq (tgt := 81) hx hb dX7_sum_67 (by decide) (fun c_67 => ?_) (fun c_67 => ?_)
                  · refine lv_aload_n hx hb dX7_sum_81 rfl (lv_at hl 0 rfl) ?_
                    refine va_get (D := (dC, dI)) (ci := 7) (v := .ref (q 12)) (C := RX7) (T := TX7) (N := 26) hx hb hts inX7 hown hK hP 0 rfl rfl 16 (by decide) (hts _ fl_X7_43) (fun _ h9 => h9) rfl dX7_sum_82 ?_
                    refine lv_iload hx hb dX7_sum_85 (lv_at hl 4 rfl) ?_
                    refine xa_ild hx hb hK hP 12 0 rfl rfl (by omega) (by decide) dX7_sum_87 ?_
                    refine lv_i2l (v := (σ.1 17 i).toInt64) hx hb dX7_sum_88 rfl ?_
                    refine lv_goto (tgt := 93) hx hb dX7_sum_89 (by decide) ?_
                    refine lv_ladd hx hb dX7_sum_93 ?_
                    refine lv_lstore (lv' := [(4, .long (tot + ((σ.1 17 i).toInt64))), (0, .ref (q 0)), (1, .int p1), (2, .int p2), (3, .int p3), (6, .int (nI i))]) hx hb dX7_sum_94 hl (by decide) rfl (fun ls hl => ?_)
                    refine lv_iinc (v := nI (i + 1)) (lv' := [(6, .int (nI (i + 1))), (4, .long (tot + ((σ.1 17 i).toInt64))), (0, .ref (q 0)), (1, .int p1), (2, .int p2), (3, .int p3)]) hx hb dX7_sum_96 hl (k := 5) rfl (nI_1 i) (by decide) rfl (fun ls hl => ?_)
                    refine lv_goto (tgt := 45) hx hb dX7_sum_99 (by decide) ?_
                    exact ih (i + 1) (tot + ((σ.1 17 i).toInt64)) (by omega) (by rw [hE, flX7_sum_45, if_neg c_63, if_pos c_67]) ls (lv_sub hl [2, 3, 4, 5, 0, 1] rfl)
                  · refine lv_aload_n hx hb dX7_sum_70 rfl (lv_at hl 0 rfl) ?_
                    refine lv_iload hx hb dX7_sum_71 (lv_at hl 4 rfl) ?_
                    refine lv_iload_n hx hb dX7_sum_73 rfl (lv_at hl 3 rfl) ?_
                    refine xc_i (va_runV (As := [.int (nI i), .int p3]) (rest := [.long tot]) ⟨hx, hb, hml, hown, hts⟩ (c_X7_thingOf l dC dI cI cJ q σ (nI i) p3 (by assumption) (vp_in_nI (by omega) (by decide))) (cwV 2 hts (gV ml_X7_152 im_X7_thingOf se_X7_thingOf in_X7 co_X7_thingOf) rfl rfl rfl (by decide +kernel) ⟨Nat.le_of_ble_eq_true rfl, Nat.le_of_ble_eq_true rfl⟩) (preV hK hP (pos := 0) (ci := 7) rfl rfl) rfl rfl hl.1 rfl (lv_room (Nat.le_of_ble_eq_true rfl)) dX7_sum_74 ⟨Nat.zero_le _, Nat.zero_le _⟩) ?_
                    refine lv_iconst (v := (-1)) hx hb dX7_sum_77 (by decide) ?_
                    refine lv_icmp_ne (tgt := 92) hx hb dX7_sum_78 (by decide) (fun c_78 => ?_) (fun c_78 => ?_)
                    · refine lv_lconst (v := 0) hx hb dX7_sum_92 (by decide) ?_
                      refine lv_ladd hx hb dX7_sum_93 ?_
                      refine lv_lstore (lv' := [(4, .long (tot + 0)), (0, .ref (q 0)), (1, .int p1), (2, .int p2), (3, .int p3), (6, .int (nI i))]) hx hb dX7_sum_94 hl (by decide) rfl (fun ls hl => ?_)
                      refine lv_iinc (v := nI (i + 1)) (lv' := [(6, .int (nI (i + 1))), (4, .long (tot + 0)), (0, .ref (q 0)), (1, .int p1), (2, .int p2), (3, .int p3)]) hx hb dX7_sum_96 hl (k := 5) rfl (nI_1 i) (by decide) rfl (fun ls hl => ?_)
                      refine lv_goto (tgt := 45) hx hb dX7_sum_99 (by decide) ?_
                      exact ih (i + 1) (tot + 0) (by omega) (by rw [hE, flX7_sum_45, if_neg c_63, if_neg c_67, if_neg c_78]) ls (lv_sub hl [2, 3, 4, 5, 0, 1] rfl)
                    · refine lv_aload_n hx hb dX7_sum_81 rfl (lv_at hl 0 rfl) ?_
                      refine va_get (D := (dC, dI)) (ci := 7) (v := .ref (q 12)) (C := RX7) (T := TX7) (N := 26) hx hb hts inX7 hown hK hP 0 rfl rfl 16 (by decide) (hts _ fl_X7_43) (fun _ h9 => h9) rfl dX7_sum_82 ?_
                      refine lv_iload hx hb dX7_sum_85 (lv_at hl 4 rfl) ?_
                      refine xa_ild hx hb hK hP 12 0 rfl rfl (by omega) (by decide) dX7_sum_87 ?_
                      refine lv_i2l (v := (σ.1 17 i).toInt64) hx hb dX7_sum_88 rfl ?_
                      refine lv_goto (tgt := 93) hx hb dX7_sum_89 (by decide) ?_
                      refine lv_ladd hx hb dX7_sum_93 ?_
                      refine lv_lstore (lv' := [(4, .long (tot + ((σ.1 17 i).toInt64))), (0, .ref (q 0)), (1, .int p1), (2, .int p2), (3, .int p3), (6, .int (nI i))]) hx hb dX7_sum_94 hl (by decide) rfl (fun ls hl => ?_)
                      refine lv_iinc (v := nI (i + 1)) (lv' := [(6, .int (nI (i + 1))), (4, .long (tot + ((σ.1 17 i).toInt64))), (0, .ref (q 0)), (1, .int p1), (2, .int p2), (3, .int p3)]) hx hb dX7_sum_96 hl (k := 5) rfl (nI_1 i) (by decide) rfl (fun ls hl => ?_)
                      refine lv_goto (tgt := 45) hx hb dX7_sum_99 (by decide) ?_
                      exact ih (i + 1) (tot + ((σ.1 17 i).toInt64)) (by omega) (by rw [hE, flX7_sum_45, if_neg c_63, if_neg c_67, if_pos c_78]) ls (lv_sub hl [2, 3, 4, 5, 0, 1] rfl)
          exact loop_45 ((σ.2.1 2).toNatClampNeg) 0 0 (by rw [Nat.zero_add]) (by rw [fX7_sum, if_neg c_6, if_neg c_13, if_neg c_20, if_neg c_27]) ls (lv_sub hl [2, 3, 4, 5, 0, 1] rfl)
        · refine lv_aload_n hx hb dX7_sum_30 rfl (lv_at hl 0 rfl) ?_
          refine lv_iload_n hx hb dX7_sum_31 rfl (lv_at hl 2 rfl) ?_
          refine lv_iload_n hx hb dX7_sum_32 rfl (lv_at hl 3 rfl) ?_
          refine lv_iconst (v := (-1)) hx hb dX7_sum_33 (by decide) ?_
          refine lv_iconst (v := 0) hx hb dX7_sum_34 (by decide) ?_
          refine xc_l (va_runV (As := [.int p2, .int p3, .int (-1), .int 0]) (rest := []) ⟨hx, hb, hml, hown, hts⟩ (c_X7_allCarried l dC dI cI cJ q σ p2 p3 (-1) 0 (by assumption) (by assumption)) (cwV 4 hts (gV ml_X7_162 im_X7_allCarried se_X7_allCarried in_X7 co_X7_allCarried) rfl rfl rfl (by decide +kernel) ⟨Nat.le_of_ble_eq_true rfl, Nat.le_of_ble_eq_true rfl⟩) (preV hK hP (pos := 0) (ci := 7) rfl rfl) rfl rfl hl.1 rfl (lv_room (Nat.le_of_ble_eq_true rfl)) dX7_sum_35 ⟨Nat.zero_le _, Nat.zero_le _⟩) ?_
          exact W.lret (v := fX7_allCarried σ p2 p3 (-1) 0) hx hb hr (fun t ht hW => ⟨_, rfl, (by rw [fX7_sum, if_neg c_6, if_neg c_13, if_neg c_20, if_pos c_27]), ht⟩) (fun _ h => absurd h List.not_mem_nil) dX7_sum_38
      · refine lv_lconst (v := 0) hx hb dX7_sum_23 (by decide) ?_
        exact W.lret (v := 0) hx hb hr (fun t ht hW => ⟨_, rfl, (by rw [fX7_sum, if_neg c_6, if_neg c_13, if_pos c_20]), ht⟩) (fun _ h => absurd h List.not_mem_nil) dX7_sum_24
