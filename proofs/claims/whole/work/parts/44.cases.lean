set_option maxHeartbeats 4000000 in
set_option maxRecDepth 100000 in
theorem law_c0 {p : Program} {l : Launch} {e : Env} {s : State} {m : MethodId} {below : List Frame} {meth : Method} {c : Code} {dC : Nat → ClassId} {dI : Nat → Nat → Nat} {cI cJ : ClassId} {b L : Nat} {xs : Nat → Int32} (hL : L ≤ 3584) (C0 : lw_At p s m meth c b L xs) (hK : va_K (dC, dI) vwCl (tyC cI cJ) s) {q r : Nat → Nat} (F : LF s q r) {σ τ : St} {n m' u v : Nat} (hR : R σ τ n m' u v) {i : Nat} (hi : i + 7 ≤ L) {H : Heap} {locs : List Loc} (hPT : va_P (dC, dI) vwCl (wT cI cJ q σ) H) (hPM : va_P (dC, dI) vwCl (wM cI cJ r τ) H) (hS : va_S (fun a : Nat => s.heap.size ≤ a) s.heap H locs) {ls : Array Slot} (hl : lv_has ls 4 [(0, .ref b), (1, .ref (q 0)), (2, .ref (r 0)), (3, .int (nI i))]) (K : ∀ (σ τ : St) (H : Heap) (locs : List Loc), (∃ n m u v, R σ τ n m u v) → va_P (dC, dI) vwCl (wT cI cJ q σ) H → va_P (dC, dI) vwCl (wM cI cJ r τ) H → va_S (fun a : Nat => s.heap.size ≤ a) s.heap H locs → W p l e room_1 s m #[Value.ref b] below meth c H locs 600000 7302250 (lw_Z below #[Value.ref b] s) (F0 m 869 ls [])) : W p l e room_1 s m #[Value.ref b] below meth c H locs 600000 7302250 (lw_Z below #[Value.ref b] s) (F0 m 120 ls []) := by
  obtain ⟨hx, hb, hr, hml, hown, hts, hX, hbl, hlocks, hgv⟩ := C0
  have hown : s.vm.findClass RL = some m.cls := hown
  have hts : ∀ w ∈ tb, w.before #[Value.ref b] s = true := fun w hw => hts w (List.mem_filter.mp hw).1
  have hbA : ¬ (fun a : Nat => s.heap.size ≤ a) b := Nat.not_le.mpr hbl
  obtain ⟨a1, ea1⟩ : ∃ y, y = xs (i + 1) := ⟨_, rfl⟩
  obtain ⟨a2, ea2⟩ : ∃ y, y = xs (i + 2) := ⟨_, rfl⟩
  obtain ⟨a3, ea3⟩ : ∃ y, y = xs (i + 3) := ⟨_, rfl⟩
  obtain ⟨a4, ea4⟩ : ∃ y, y = xs (i + 4) := ⟨_, rfl⟩
  obtain ⟨a5, ea5⟩ : ∃ y, y = xs (i + 5) := ⟨_, rfl⟩
  obtain ⟨a6, ea6⟩ : ∃ y, y = xs (i + 6) := ⟨_, rfl⟩
  refine lv_aload_n hx hb dL_law_120 rfl (lv_at hl 1 rfl) ?_
  refine lv_aload_n hx hb dL_law_121 rfl (lv_at hl 0 rfl) ?_
  refine lv_iload_n hx hb dL_law_122 rfl (lv_at hl 3 rfl) ?_
  refine lv_iconst (v := 1) hx hb dL_law_123 (by decide) ?_
  refine lv_iadd hx hb dL_law_124 ?_
  refine xl_sld hx hb hX hbl hbA hS (i + 1) (nI_add i 1) (by omega) hL dL_law_125 ?_
  rw [← ea1]
  refine xw_c (va_runV (As := [.int a1]) (rest := []) ⟨hx, hb, hml, hown, hts⟩ (c_X6_day l dC dI cI cJ q σ a1 F.1) (cwV 1 hts (gV ml_L_13 im_X6_day se_X6_day in_X6 co_X6_day) rfl rfl rfl (by decide +kernel) ⟨Nat.le_of_ble_eq_true rfl, Nat.le_of_ble_eq_true rfl⟩) (preV hK hPT (pos := 0) (ci := 6) rfl rfl) rfl rfl hl.1 rfl (lv_room (Nat.le_of_ble_eq_true rfl)) dL_law_126 ⟨Nat.le_refl _, Nat.le_refl _⟩) hS F.inT (fun H locs hPT hz hk hS => ?_)
  have hPM := keepW hPM rfl F.2.2.1 hk
  refine W.eq (g2 := F0 m 129 ls [.int ((fX6_day σ a1).1)]) rfl ?_
  refine lv_aload_n hx hb dL_law_129 rfl (lv_at hl 2 rfl) ?_
  refine lv_aload_n hx hb dL_law_130 rfl (lv_at hl 0 rfl) ?_
  refine lv_iload_n hx hb dL_law_131 rfl (lv_at hl 3 rfl) ?_
  refine lv_iconst (v := 1) hx hb dL_law_132 (by decide) ?_
  refine lv_iadd hx hb dL_law_133 ?_
  refine xl_sld hx hb hX hbl hbA hS (i + 1) (nI_add i 1) (by omega) hL dL_law_134 ?_
  rw [← ea1]
  refine xw_c (va_runV (As := [.int a1]) (rest := [.int ((fX6_day σ a1).1)]) ⟨hx, hb, hml, hown, hts⟩ (c_X7_day l dC dI cI cJ r τ a1 F.2.1) (cwV 1 hts (gV ml_L_17 im_X7_day se_X7_day in_X7 co_X7_day) rfl rfl rfl (by decide +kernel) ⟨Nat.le_of_ble_eq_true rfl, Nat.le_of_ble_eq_true rfl⟩) (preV hK hPM (pos := 0) (ci := 7) rfl rfl) rfl rfl hl.1 rfl (lv_room (Nat.le_of_ble_eq_true rfl)) dL_law_135 ⟨Nat.le_refl _, Nat.le_refl _⟩) hS F.inM (fun H locs hPM hz hk hS => ?_)
  have hPT := keepW hPT rfl (fun i j hi hj e => F.2.2.1 j i hj hi e.symm) hk
  refine W.eq (g2 := F0 m 138 ls [.int ((fX7_day τ a1).1), .int ((fX6_day σ a1).1)]) rfl ?_
  obtain ⟨e1, hR2⟩ := hR.day a1
  refine lv_icmp_eq (tgt := 869) hx hb dL_law_138 (by decide) (fun c_1 => ?_) (fun c_1 => absurd e1 c_1)
  exact K _ _ _ _ ⟨n, m', u, v, hR2⟩ hPT hPM hS

set_option maxHeartbeats 4000000 in
set_option maxRecDepth 100000 in
theorem law_c1 {p : Program} {l : Launch} {e : Env} {s : State} {m : MethodId} {below : List Frame} {meth : Method} {c : Code} {dC : Nat → ClassId} {dI : Nat → Nat → Nat} {cI cJ : ClassId} {b L : Nat} {xs : Nat → Int32} (hL : L ≤ 3584) (C0 : lw_At p s m meth c b L xs) (hK : va_K (dC, dI) vwCl (tyC cI cJ) s) {q r : Nat → Nat} (F : LF s q r) {σ τ : St} {n m' u v : Nat} (hR : R σ τ n m' u v) {i : Nat} (hi : i + 7 ≤ L) {H : Heap} {locs : List Loc} (hPT : va_P (dC, dI) vwCl (wT cI cJ q σ) H) (hPM : va_P (dC, dI) vwCl (wM cI cJ r τ) H) (hS : va_S (fun a : Nat => s.heap.size ≤ a) s.heap H locs) {ls : Array Slot} (hl : lv_has ls 4 [(0, .ref b), (1, .ref (q 0)), (2, .ref (r 0)), (3, .int (nI i))]) (K : ∀ (σ τ : St) (H : Heap) (locs : List Loc), (∃ n m u v, R σ τ n m u v) → va_P (dC, dI) vwCl (wT cI cJ q σ) H → va_P (dC, dI) vwCl (wM cI cJ r τ) H → va_S (fun a : Nat => s.heap.size ≤ a) s.heap H locs → W p l e room_1 s m #[Value.ref b] below meth c H locs 600000 7302250 (lw_Z below #[Value.ref b] s) (F0 m 869 ls [])) : W p l e room_1 s m #[Value.ref b] below meth c H locs 600000 7302250 (lw_Z below #[Value.ref b] s) (F0 m 143 ls []) := by
  obtain ⟨hx, hb, hr, hml, hown, hts, hX, hbl, hlocks, hgv⟩ := C0
  have hown : s.vm.findClass RL = some m.cls := hown
  have hts : ∀ w ∈ tb, w.before #[Value.ref b] s = true := fun w hw => hts w (List.mem_filter.mp hw).1
  have hbA : ¬ (fun a : Nat => s.heap.size ≤ a) b := Nat.not_le.mpr hbl
  obtain ⟨a1, ea1⟩ : ∃ y, y = xs (i + 1) := ⟨_, rfl⟩
  obtain ⟨a2, ea2⟩ : ∃ y, y = xs (i + 2) := ⟨_, rfl⟩
  obtain ⟨a3, ea3⟩ : ∃ y, y = xs (i + 3) := ⟨_, rfl⟩
  obtain ⟨a4, ea4⟩ : ∃ y, y = xs (i + 4) := ⟨_, rfl⟩
  obtain ⟨a5, ea5⟩ : ∃ y, y = xs (i + 5) := ⟨_, rfl⟩
  obtain ⟨a6, ea6⟩ : ∃ y, y = xs (i + 6) := ⟨_, rfl⟩
  refine lv_aload_n hx hb dL_law_143 rfl (lv_at hl 1 rfl) ?_
  refine lv_aload_n hx hb dL_law_144 rfl (lv_at hl 0 rfl) ?_
  refine lv_iload_n hx hb dL_law_145 rfl (lv_at hl 3 rfl) ?_
  refine lv_iconst (v := 1) hx hb dL_law_146 (by decide) ?_
  refine lv_iadd hx hb dL_law_147 ?_
  refine xl_sld hx hb hX hbl hbA hS (i + 1) (nI_add i 1) (by omega) hL dL_law_148 ?_
  rw [← ea1]
  refine lv_aload_n hx hb dL_law_149 rfl (lv_at hl 0 rfl) ?_
  refine lv_iload_n hx hb dL_law_150 rfl (lv_at hl 3 rfl) ?_
  refine lv_iconst (v := 2) hx hb dL_law_151 (by decide) ?_
  refine lv_iadd hx hb dL_law_152 ?_
  refine xl_sld hx hb hX hbl hbA hS (i + 2) (nI_add i 2) (by omega) hL dL_law_153 ?_
  rw [← ea2]
  refine xw_c (va_runV (As := [.int a1, .int a2]) (rest := []) ⟨hx, hb, hml, hown, hts⟩ (c_X6_born l dC dI cI cJ q σ a1 a2 F.1 hR.IBc) (cwV 2 hts (gV ml_L_18 im_X6_born se_X6_born in_X6 co_X6_born) rfl rfl rfl (by decide +kernel) ⟨Nat.le_of_ble_eq_true rfl, Nat.le_of_ble_eq_true rfl⟩) (preV hK hPT (pos := 0) (ci := 6) rfl rfl) rfl rfl hl.1 rfl (lv_room (Nat.le_of_ble_eq_true rfl)) dL_law_154 ⟨Nat.le_refl _, Nat.le_refl _⟩) hS F.inT (fun H locs hPT hz hk hS => ?_)
  have hPM := keepW hPM rfl F.2.2.1 hk
  refine W.eq (g2 := F0 m 157 ls [.int ((fX6_born σ a1 a2).1)]) rfl ?_
  refine lv_aload_n hx hb dL_law_157 rfl (lv_at hl 2 rfl) ?_
  refine lv_aload_n hx hb dL_law_158 rfl (lv_at hl 0 rfl) ?_
  refine lv_iload_n hx hb dL_law_159 rfl (lv_at hl 3 rfl) ?_
  refine lv_iconst (v := 1) hx hb dL_law_160 (by decide) ?_
  refine lv_iadd hx hb dL_law_161 ?_
  refine xl_sld hx hb hX hbl hbA hS (i + 1) (nI_add i 1) (by omega) hL dL_law_162 ?_
  rw [← ea1]
  refine lv_aload_n hx hb dL_law_163 rfl (lv_at hl 0 rfl) ?_
  refine lv_iload_n hx hb dL_law_164 rfl (lv_at hl 3 rfl) ?_
  refine lv_iconst (v := 2) hx hb dL_law_165 (by decide) ?_
  refine lv_iadd hx hb dL_law_166 ?_
  refine xl_sld hx hb hX hbl hbA hS (i + 2) (nI_add i 2) (by omega) hL dL_law_167 ?_
  rw [← ea2]
  refine xw_c (va_runV (As := [.int a1, .int a2]) (rest := [.int ((fX6_born σ a1 a2).1)]) ⟨hx, hb, hml, hown, hts⟩ (c_X7_born l dC dI cI cJ r τ a1 a2 F.2.1 hR.IBm) (cwV 2 hts (gV ml_L_22 im_X7_born se_X7_born in_X7 co_X7_born) rfl rfl rfl (by decide +kernel) ⟨Nat.le_of_ble_eq_true rfl, Nat.le_of_ble_eq_true rfl⟩) (preV hK hPM (pos := 0) (ci := 7) rfl rfl) rfl rfl hl.1 rfl (lv_room (Nat.le_of_ble_eq_true rfl)) dL_law_168 ⟨Nat.le_refl _, Nat.le_refl _⟩) hS F.inM (fun H locs hPM hz hk hS => ?_)
  have hPT := keepW hPT rfl (fun i j hi hj e => F.2.2.1 j i hj hi e.symm) hk
  refine W.eq (g2 := F0 m 171 ls [.int ((fX7_born τ a1 a2).1), .int ((fX6_born σ a1 a2).1)]) rfl ?_
  obtain ⟨e1, z, hR2⟩ := hR.born a1 a2
  refine lv_icmp_eq (tgt := 869) hx hb dL_law_171 (by decide) (fun c_1 => ?_) (fun c_1 => absurd e1 c_1)
  exact K _ _ _ _ ⟨z, m', u, v, hR2⟩ hPT hPM hS

set_option maxHeartbeats 4000000 in
set_option maxRecDepth 100000 in
theorem law_c2 {p : Program} {l : Launch} {e : Env} {s : State} {m : MethodId} {below : List Frame} {meth : Method} {c : Code} {dC : Nat → ClassId} {dI : Nat → Nat → Nat} {cI cJ : ClassId} {b L : Nat} {xs : Nat → Int32} (hL : L ≤ 3584) (C0 : lw_At p s m meth c b L xs) (hK : va_K (dC, dI) vwCl (tyC cI cJ) s) {q r : Nat → Nat} (F : LF s q r) {σ τ : St} {n m' u v : Nat} (hR : R σ τ n m' u v) {i : Nat} (hi : i + 7 ≤ L) {H : Heap} {locs : List Loc} (hPT : va_P (dC, dI) vwCl (wT cI cJ q σ) H) (hPM : va_P (dC, dI) vwCl (wM cI cJ r τ) H) (hS : va_S (fun a : Nat => s.heap.size ≤ a) s.heap H locs) {ls : Array Slot} (hl : lv_has ls 4 [(0, .ref b), (1, .ref (q 0)), (2, .ref (r 0)), (3, .int (nI i))]) (K : ∀ (σ τ : St) (H : Heap) (locs : List Loc), (∃ n m u v, R σ τ n m u v) → va_P (dC, dI) vwCl (wT cI cJ q σ) H → va_P (dC, dI) vwCl (wM cI cJ r τ) H → va_S (fun a : Nat => s.heap.size ≤ a) s.heap H locs → W p l e room_1 s m #[Value.ref b] below meth c H locs 600000 7302250 (lw_Z below #[Value.ref b] s) (F0 m 869 ls [])) : W p l e room_1 s m #[Value.ref b] below meth c H locs 600000 7302250 (lw_Z below #[Value.ref b] s) (F0 m 176 ls []) := by
  obtain ⟨hx, hb, hr, hml, hown, hts, hX, hbl, hlocks, hgv⟩ := C0
  have hown : s.vm.findClass RL = some m.cls := hown
  have hts : ∀ w ∈ tb, w.before #[Value.ref b] s = true := fun w hw => hts w (List.mem_filter.mp hw).1
  have hbA : ¬ (fun a : Nat => s.heap.size ≤ a) b := Nat.not_le.mpr hbl
  obtain ⟨a1, ea1⟩ : ∃ y, y = xs (i + 1) := ⟨_, rfl⟩
  obtain ⟨a2, ea2⟩ : ∃ y, y = xs (i + 2) := ⟨_, rfl⟩
  obtain ⟨a3, ea3⟩ : ∃ y, y = xs (i + 3) := ⟨_, rfl⟩
  obtain ⟨a4, ea4⟩ : ∃ y, y = xs (i + 4) := ⟨_, rfl⟩
  obtain ⟨a5, ea5⟩ : ∃ y, y = xs (i + 5) := ⟨_, rfl⟩
  obtain ⟨a6, ea6⟩ : ∃ y, y = xs (i + 6) := ⟨_, rfl⟩
  refine lv_aload_n hx hb dL_law_176 rfl (lv_at hl 1 rfl) ?_
  refine lv_aload_n hx hb dL_law_177 rfl (lv_at hl 0 rfl) ?_
  refine lv_iload_n hx hb dL_law_178 rfl (lv_at hl 3 rfl) ?_
  refine lv_iconst (v := 1) hx hb dL_law_179 (by decide) ?_
  refine lv_iadd hx hb dL_law_180 ?_
  refine xl_sld hx hb hX hbl hbA hS (i + 1) (nI_add i 1) (by omega) hL dL_law_181 ?_
  rw [← ea1]
  refine lv_aload_n hx hb dL_law_182 rfl (lv_at hl 0 rfl) ?_
  refine lv_iload_n hx hb dL_law_183 rfl (lv_at hl 3 rfl) ?_
  refine lv_iconst (v := 2) hx hb dL_law_184 (by decide) ?_
  refine lv_iadd hx hb dL_law_185 ?_
  refine xl_sld hx hb hX hbl hbA hS (i + 2) (nI_add i 2) (by omega) hL dL_law_186 ?_
  rw [← ea2]
  refine xw_c (va_runV (As := [.int a1, .int a2]) (rest := []) ⟨hx, hb, hml, hown, hts⟩ (c_X6_ends l dC dI cI cJ q σ a1 a2 F.1 hR.IBc) (cwV 2 hts (gV ml_L_23 im_X6_ends se_X6_ends in_X6 co_X6_ends) rfl rfl rfl (by decide +kernel) ⟨Nat.le_of_ble_eq_true rfl, Nat.le_of_ble_eq_true rfl⟩) (preV hK hPT (pos := 0) (ci := 6) rfl rfl) rfl rfl hl.1 rfl (lv_room (Nat.le_of_ble_eq_true rfl)) dL_law_187 ⟨Nat.le_refl _, Nat.le_refl _⟩) hS F.inT (fun H locs hPT hz hk hS => ?_)
  have hPM := keepW hPM rfl F.2.2.1 hk
  refine W.eq (g2 := F0 m 190 ls [.int ((fX6_ends σ a1 a2).1)]) rfl ?_
  refine lv_aload_n hx hb dL_law_190 rfl (lv_at hl 2 rfl) ?_
  refine lv_aload_n hx hb dL_law_191 rfl (lv_at hl 0 rfl) ?_
  refine lv_iload_n hx hb dL_law_192 rfl (lv_at hl 3 rfl) ?_
  refine lv_iconst (v := 1) hx hb dL_law_193 (by decide) ?_
  refine lv_iadd hx hb dL_law_194 ?_
  refine xl_sld hx hb hX hbl hbA hS (i + 1) (nI_add i 1) (by omega) hL dL_law_195 ?_
  rw [← ea1]
  refine lv_aload_n hx hb dL_law_196 rfl (lv_at hl 0 rfl) ?_
  refine lv_iload_n hx hb dL_law_197 rfl (lv_at hl 3 rfl) ?_
  refine lv_iconst (v := 2) hx hb dL_law_198 (by decide) ?_
  refine lv_iadd hx hb dL_law_199 ?_
  refine xl_sld hx hb hX hbl hbA hS (i + 2) (nI_add i 2) (by omega) hL dL_law_200 ?_
  rw [← ea2]
  refine xw_c (va_runV (As := [.int a1, .int a2]) (rest := [.int ((fX6_ends σ a1 a2).1)]) ⟨hx, hb, hml, hown, hts⟩ (c_X7_ends l dC dI cI cJ r τ a1 a2 F.2.1 hR.IBm) (cwV 2 hts (gV ml_L_27 im_X7_ends se_X7_ends in_X7 co_X7_ends) rfl rfl rfl (by decide +kernel) ⟨Nat.le_of_ble_eq_true rfl, Nat.le_of_ble_eq_true rfl⟩) (preV hK hPM (pos := 0) (ci := 7) rfl rfl) rfl rfl hl.1 rfl (lv_room (Nat.le_of_ble_eq_true rfl)) dL_law_201 ⟨Nat.le_refl _, Nat.le_refl _⟩) hS F.inM (fun H locs hPM hz hk hS => ?_)
  have hPT := keepW hPT rfl (fun i j hi hj e => F.2.2.1 j i hj hi e.symm) hk
  refine W.eq (g2 := F0 m 204 ls [.int ((fX7_ends τ a1 a2).1), .int ((fX6_ends σ a1 a2).1)]) rfl ?_
  obtain ⟨e1, hR2⟩ := hR.ends a1 a2
  refine lv_icmp_eq (tgt := 869) hx hb dL_law_204 (by decide) (fun c_1 => ?_) (fun c_1 => absurd e1 c_1)
  exact K _ _ _ _ ⟨n, m', u, v, hR2⟩ hPT hPM hS

set_option maxHeartbeats 4000000 in
set_option maxRecDepth 100000 in
theorem law_c3 {p : Program} {l : Launch} {e : Env} {s : State} {m : MethodId} {below : List Frame} {meth : Method} {c : Code} {dC : Nat → ClassId} {dI : Nat → Nat → Nat} {cI cJ : ClassId} {b L : Nat} {xs : Nat → Int32} (hL : L ≤ 3584) (C0 : lw_At p s m meth c b L xs) (hK : va_K (dC, dI) vwCl (tyC cI cJ) s) {q r : Nat → Nat} (F : LF s q r) {σ τ : St} {n m' u v : Nat} (hR : R σ τ n m' u v) {i : Nat} (hi : i + 7 ≤ L) {H : Heap} {locs : List Loc} (hPT : va_P (dC, dI) vwCl (wT cI cJ q σ) H) (hPM : va_P (dC, dI) vwCl (wM cI cJ r τ) H) (hS : va_S (fun a : Nat => s.heap.size ≤ a) s.heap H locs) {ls : Array Slot} (hl : lv_has ls 4 [(0, .ref b), (1, .ref (q 0)), (2, .ref (r 0)), (3, .int (nI i))]) (K : ∀ (σ τ : St) (H : Heap) (locs : List Loc), (∃ n m u v, R σ τ n m u v) → va_P (dC, dI) vwCl (wT cI cJ q σ) H → va_P (dC, dI) vwCl (wM cI cJ r τ) H → va_S (fun a : Nat => s.heap.size ≤ a) s.heap H locs → W p l e room_1 s m #[Value.ref b] below meth c H locs 600000 7302250 (lw_Z below #[Value.ref b] s) (F0 m 869 ls [])) : W p l e room_1 s m #[Value.ref b] below meth c H locs 600000 7302250 (lw_Z below #[Value.ref b] s) (F0 m 209 ls []) := by
  obtain ⟨hx, hb, hr, hml, hown, hts, hX, hbl, hlocks, hgv⟩ := C0
  have hown : s.vm.findClass RL = some m.cls := hown
  have hts : ∀ w ∈ tb, w.before #[Value.ref b] s = true := fun w hw => hts w (List.mem_filter.mp hw).1
  have hbA : ¬ (fun a : Nat => s.heap.size ≤ a) b := Nat.not_le.mpr hbl
  obtain ⟨a1, ea1⟩ : ∃ y, y = xs (i + 1) := ⟨_, rfl⟩
  obtain ⟨a2, ea2⟩ : ∃ y, y = xs (i + 2) := ⟨_, rfl⟩
  obtain ⟨a3, ea3⟩ : ∃ y, y = xs (i + 3) := ⟨_, rfl⟩
  obtain ⟨a4, ea4⟩ : ∃ y, y = xs (i + 4) := ⟨_, rfl⟩
  obtain ⟨a5, ea5⟩ : ∃ y, y = xs (i + 5) := ⟨_, rfl⟩
  obtain ⟨a6, ea6⟩ : ∃ y, y = xs (i + 6) := ⟨_, rfl⟩
  refine lv_aload_n hx hb dL_law_209 rfl (lv_at hl 1 rfl) ?_
  refine lv_aload_n hx hb dL_law_210 rfl (lv_at hl 0 rfl) ?_
  refine lv_iload_n hx hb dL_law_211 rfl (lv_at hl 3 rfl) ?_
  refine lv_iconst (v := 1) hx hb dL_law_212 (by decide) ?_
  refine lv_iadd hx hb dL_law_213 ?_
  refine xl_sld hx hb hX hbl hbA hS (i + 1) (nI_add i 1) (by omega) hL dL_law_214 ?_
  rw [← ea1]
  refine lv_aload_n hx hb dL_law_215 rfl (lv_at hl 0 rfl) ?_
  refine lv_iload_n hx hb dL_law_216 rfl (lv_at hl 3 rfl) ?_
  refine lv_iconst (v := 2) hx hb dL_law_217 (by decide) ?_
  refine lv_iadd hx hb dL_law_218 ?_
  refine xl_sld hx hb hX hbl hbA hS (i + 2) (nI_add i 2) (by omega) hL dL_law_219 ?_
  rw [← ea2]
  refine lv_aload_n hx hb dL_law_220 rfl (lv_at hl 0 rfl) ?_
  refine lv_iload_n hx hb dL_law_221 rfl (lv_at hl 3 rfl) ?_
  refine lv_iconst (v := 3) hx hb dL_law_222 (by decide) ?_
  refine lv_iadd hx hb dL_law_223 ?_
  refine xl_sld hx hb hX hbl hbA hS (i + 3) (nI_add i 3) (by omega) hL dL_law_224 ?_
  rw [← ea3]
  refine lv_aload_n hx hb dL_law_225 rfl (lv_at hl 0 rfl) ?_
  refine lv_iload_n hx hb dL_law_226 rfl (lv_at hl 3 rfl) ?_
  refine lv_iconst (v := 4) hx hb dL_law_227 (by decide) ?_
  refine lv_iadd hx hb dL_law_228 ?_
  refine xl_sld hx hb hX hbl hbA hS (i + 4) (nI_add i 4) (by omega) hL dL_law_229 ?_
  rw [← ea4]
  refine lv_aload_n hx hb dL_law_230 rfl (lv_at hl 0 rfl) ?_
  refine lv_iload_n hx hb dL_law_231 rfl (lv_at hl 3 rfl) ?_
  refine lv_iconst (v := 5) hx hb dL_law_232 (by decide) ?_
  refine lv_iadd hx hb dL_law_233 ?_
  refine xl_sld hx hb hX hbl hbA hS (i + 5) (nI_add i 5) (by omega) hL dL_law_234 ?_
  rw [← ea5]
  refine lv_aload_n hx hb dL_law_235 rfl (lv_at hl 0 rfl) ?_
  refine lv_iload_n hx hb dL_law_236 rfl (lv_at hl 3 rfl) ?_
  refine lv_bipush (v := 6) hx hb dL_law_237 (by decide) ?_
  refine lv_iadd hx hb dL_law_239 ?_
  refine xl_sld hx hb hX hbl hbA hS (i + 6) (nI_add i 6) (by omega) hL dL_law_240 ?_
  rw [← ea6]
  refine xw_c (va_runV (As := [.int a1, .int a2, .int a3, .int a4, .int a5, .int a6]) (rest := []) ⟨hx, hb, hml, hown, hts⟩ (c_X6_split l dC dI cI cJ q σ a1 a2 a3 a4 a5 a6 F.1 hR.IBc) (cwV 6 hts (gV ml_L_28 im_X6_split se_X6_split in_X6 co_X6_split) rfl rfl rfl (by decide +kernel) ⟨Nat.le_of_ble_eq_true rfl, Nat.le_of_ble_eq_true rfl⟩) (preV hK hPT (pos := 0) (ci := 6) rfl rfl) rfl rfl hl.1 rfl (lv_room (Nat.le_of_ble_eq_true rfl)) dL_law_241 ⟨Nat.le_refl _, Nat.le_refl _⟩) hS F.inT (fun H locs hPT hz hk hS => ?_)
  have hPM := keepW hPM rfl F.2.2.1 hk
  refine W.eq (g2 := F0 m 244 ls [.int ((fX6_split σ a1 a2 a3 a4 a5 a6).1)]) rfl ?_
  refine lv_aload_n hx hb dL_law_244 rfl (lv_at hl 2 rfl) ?_
  refine lv_aload_n hx hb dL_law_245 rfl (lv_at hl 0 rfl) ?_
  refine lv_iload_n hx hb dL_law_246 rfl (lv_at hl 3 rfl) ?_
  refine lv_iconst (v := 1) hx hb dL_law_247 (by decide) ?_
  refine lv_iadd hx hb dL_law_248 ?_
  refine xl_sld hx hb hX hbl hbA hS (i + 1) (nI_add i 1) (by omega) hL dL_law_249 ?_
  rw [← ea1]
  refine lv_aload_n hx hb dL_law_250 rfl (lv_at hl 0 rfl) ?_
  refine lv_iload_n hx hb dL_law_251 rfl (lv_at hl 3 rfl) ?_
  refine lv_iconst (v := 2) hx hb dL_law_252 (by decide) ?_
  refine lv_iadd hx hb dL_law_253 ?_
  refine xl_sld hx hb hX hbl hbA hS (i + 2) (nI_add i 2) (by omega) hL dL_law_254 ?_
  rw [← ea2]
  refine lv_aload_n hx hb dL_law_255 rfl (lv_at hl 0 rfl) ?_
  refine lv_iload_n hx hb dL_law_256 rfl (lv_at hl 3 rfl) ?_
  refine lv_iconst (v := 3) hx hb dL_law_257 (by decide) ?_
  refine lv_iadd hx hb dL_law_258 ?_
  refine xl_sld hx hb hX hbl hbA hS (i + 3) (nI_add i 3) (by omega) hL dL_law_259 ?_
  rw [← ea3]
  refine lv_aload_n hx hb dL_law_260 rfl (lv_at hl 0 rfl) ?_
  refine lv_iload_n hx hb dL_law_261 rfl (lv_at hl 3 rfl) ?_
  refine lv_iconst (v := 4) hx hb dL_law_262 (by decide) ?_
  refine lv_iadd hx hb dL_law_263 ?_
  refine xl_sld hx hb hX hbl hbA hS (i + 4) (nI_add i 4) (by omega) hL dL_law_264 ?_
  rw [← ea4]
  refine lv_aload_n hx hb dL_law_265 rfl (lv_at hl 0 rfl) ?_
  refine lv_iload_n hx hb dL_law_266 rfl (lv_at hl 3 rfl) ?_
  refine lv_iconst (v := 5) hx hb dL_law_267 (by decide) ?_
  refine lv_iadd hx hb dL_law_268 ?_
  refine xl_sld hx hb hX hbl hbA hS (i + 5) (nI_add i 5) (by omega) hL dL_law_269 ?_
  rw [← ea5]
  refine lv_aload_n hx hb dL_law_270 rfl (lv_at hl 0 rfl) ?_
  refine lv_iload_n hx hb dL_law_271 rfl (lv_at hl 3 rfl) ?_
  refine lv_bipush (v := 6) hx hb dL_law_272 (by decide) ?_
  refine lv_iadd hx hb dL_law_274 ?_
  refine xl_sld hx hb hX hbl hbA hS (i + 6) (nI_add i 6) (by omega) hL dL_law_275 ?_
  rw [← ea6]
  refine xw_c (va_runV (As := [.int a1, .int a2, .int a3, .int a4, .int a5, .int a6]) (rest := [.int ((fX6_split σ a1 a2 a3 a4 a5 a6).1)]) ⟨hx, hb, hml, hown, hts⟩ (c_X7_split l dC dI cI cJ r τ a1 a2 a3 a4 a5 a6 F.2.1 hR.IBm) (cwV 6 hts (gV ml_L_32 im_X7_split se_X7_split in_X7 co_X7_split) rfl rfl rfl (by decide +kernel) ⟨Nat.le_of_ble_eq_true rfl, Nat.le_of_ble_eq_true rfl⟩) (preV hK hPM (pos := 0) (ci := 7) rfl rfl) rfl rfl hl.1 rfl (lv_room (Nat.le_of_ble_eq_true rfl)) dL_law_276 ⟨Nat.le_refl _, Nat.le_refl _⟩) hS F.inM (fun H locs hPM hz hk hS => ?_)
  have hPT := keepW hPT rfl (fun i j hi hj e => F.2.2.1 j i hj hi e.symm) hk
  refine W.eq (g2 := F0 m 279 ls [.int ((fX7_split τ a1 a2 a3 a4 a5 a6).1), .int ((fX6_split σ a1 a2 a3 a4 a5 a6).1)]) rfl ?_
  obtain ⟨e1, z, hR2⟩ := hR.split a1 a2 a3 a4 a5 a6
  refine lv_icmp_eq (tgt := 869) hx hb dL_law_279 (by decide) (fun c_1 => ?_) (fun c_1 => absurd e1 c_1)
  exact K _ _ _ _ ⟨z, m', u, v, hR2⟩ hPT hPM hS

set_option maxHeartbeats 4000000 in
set_option maxRecDepth 100000 in
theorem law_c4 {p : Program} {l : Launch} {e : Env} {s : State} {m : MethodId} {below : List Frame} {meth : Method} {c : Code} {dC : Nat → ClassId} {dI : Nat → Nat → Nat} {cI cJ : ClassId} {b L : Nat} {xs : Nat → Int32} (hL : L ≤ 3584) (C0 : lw_At p s m meth c b L xs) (hK : va_K (dC, dI) vwCl (tyC cI cJ) s) {q r : Nat → Nat} (F : LF s q r) {σ τ : St} {n m' u v : Nat} (hR : R σ τ n m' u v) {i : Nat} (hi : i + 7 ≤ L) {H : Heap} {locs : List Loc} (hPT : va_P (dC, dI) vwCl (wT cI cJ q σ) H) (hPM : va_P (dC, dI) vwCl (wM cI cJ r τ) H) (hS : va_S (fun a : Nat => s.heap.size ≤ a) s.heap H locs) {ls : Array Slot} (hl : lv_has ls 4 [(0, .ref b), (1, .ref (q 0)), (2, .ref (r 0)), (3, .int (nI i))]) (K : ∀ (σ τ : St) (H : Heap) (locs : List Loc), (∃ n m u v, R σ τ n m u v) → va_P (dC, dI) vwCl (wT cI cJ q σ) H → va_P (dC, dI) vwCl (wM cI cJ r τ) H → va_S (fun a : Nat => s.heap.size ≤ a) s.heap H locs → W p l e room_1 s m #[Value.ref b] below meth c H locs 600000 7302250 (lw_Z below #[Value.ref b] s) (F0 m 869 ls [])) : W p l e room_1 s m #[Value.ref b] below meth c H locs 600000 7302250 (lw_Z below #[Value.ref b] s) (F0 m 284 ls []) := by
  obtain ⟨hx, hb, hr, hml, hown, hts, hX, hbl, hlocks, hgv⟩ := C0
  have hown : s.vm.findClass RL = some m.cls := hown
  have hts : ∀ w ∈ tb, w.before #[Value.ref b] s = true := fun w hw => hts w (List.mem_filter.mp hw).1
  have hbA : ¬ (fun a : Nat => s.heap.size ≤ a) b := Nat.not_le.mpr hbl
  obtain ⟨a1, ea1⟩ : ∃ y, y = xs (i + 1) := ⟨_, rfl⟩
  obtain ⟨a2, ea2⟩ : ∃ y, y = xs (i + 2) := ⟨_, rfl⟩
  obtain ⟨a3, ea3⟩ : ∃ y, y = xs (i + 3) := ⟨_, rfl⟩
  obtain ⟨a4, ea4⟩ : ∃ y, y = xs (i + 4) := ⟨_, rfl⟩
  obtain ⟨a5, ea5⟩ : ∃ y, y = xs (i + 5) := ⟨_, rfl⟩
  obtain ⟨a6, ea6⟩ : ∃ y, y = xs (i + 6) := ⟨_, rfl⟩
  refine lv_aload_n hx hb dL_law_284 rfl (lv_at hl 1 rfl) ?_
  refine lv_aload_n hx hb dL_law_285 rfl (lv_at hl 0 rfl) ?_
  refine lv_iload_n hx hb dL_law_286 rfl (lv_at hl 3 rfl) ?_
  refine lv_iconst (v := 1) hx hb dL_law_287 (by decide) ?_
  refine lv_iadd hx hb dL_law_288 ?_
  refine xl_sld hx hb hX hbl hbA hS (i + 1) (nI_add i 1) (by omega) hL dL_law_289 ?_
  rw [← ea1]
  refine lv_aload_n hx hb dL_law_290 rfl (lv_at hl 0 rfl) ?_
  refine lv_iload_n hx hb dL_law_291 rfl (lv_at hl 3 rfl) ?_
  refine lv_iconst (v := 2) hx hb dL_law_292 (by decide) ?_
  refine lv_iadd hx hb dL_law_293 ?_
  refine xl_sld hx hb hX hbl hbA hS (i + 2) (nI_add i 2) (by omega) hL dL_law_294 ?_
  rw [← ea2]
  refine lv_aload_n hx hb dL_law_295 rfl (lv_at hl 0 rfl) ?_
  refine lv_iload_n hx hb dL_law_296 rfl (lv_at hl 3 rfl) ?_
  refine lv_iconst (v := 3) hx hb dL_law_297 (by decide) ?_
  refine lv_iadd hx hb dL_law_298 ?_
  refine xl_sld hx hb hX hbl hbA hS (i + 3) (nI_add i 3) (by omega) hL dL_law_299 ?_
  rw [← ea3]
  refine lv_aload_n hx hb dL_law_300 rfl (lv_at hl 0 rfl) ?_
  refine lv_iload_n hx hb dL_law_301 rfl (lv_at hl 3 rfl) ?_
  refine lv_iconst (v := 4) hx hb dL_law_302 (by decide) ?_
  refine lv_iadd hx hb dL_law_303 ?_
  refine xl_sld hx hb hX hbl hbA hS (i + 4) (nI_add i 4) (by omega) hL dL_law_304 ?_
  rw [← ea4]
  refine xw_c (va_runV (As := [.int a1, .int a2, .int a3, .int a4]) (rest := []) ⟨hx, hb, hml, hown, hts⟩ (c_X6_join l dC dI cI cJ q σ a1 a2 a3 a4 F.1 hR.IBc) (cwV 4 hts (gV ml_L_33 im_X6_join se_X6_join in_X6 co_X6_join) rfl rfl rfl (by decide +kernel) ⟨Nat.le_of_ble_eq_true rfl, Nat.le_of_ble_eq_true rfl⟩) (preV hK hPT (pos := 0) (ci := 6) rfl rfl) rfl rfl hl.1 rfl (lv_room (Nat.le_of_ble_eq_true rfl)) dL_law_305 ⟨Nat.le_refl _, Nat.le_refl _⟩) hS F.inT (fun H locs hPT hz hk hS => ?_)
  have hPM := keepW hPM rfl F.2.2.1 hk
  refine W.eq (g2 := F0 m 308 ls [.int ((fX6_join σ a1 a2 a3 a4).1)]) rfl ?_
  refine lv_aload_n hx hb dL_law_308 rfl (lv_at hl 2 rfl) ?_
  refine lv_aload_n hx hb dL_law_309 rfl (lv_at hl 0 rfl) ?_
  refine lv_iload_n hx hb dL_law_310 rfl (lv_at hl 3 rfl) ?_
  refine lv_iconst (v := 1) hx hb dL_law_311 (by decide) ?_
  refine lv_iadd hx hb dL_law_312 ?_
  refine xl_sld hx hb hX hbl hbA hS (i + 1) (nI_add i 1) (by omega) hL dL_law_313 ?_
  rw [← ea1]
  refine lv_aload_n hx hb dL_law_314 rfl (lv_at hl 0 rfl) ?_
  refine lv_iload_n hx hb dL_law_315 rfl (lv_at hl 3 rfl) ?_
  refine lv_iconst (v := 2) hx hb dL_law_316 (by decide) ?_
  refine lv_iadd hx hb dL_law_317 ?_
  refine xl_sld hx hb hX hbl hbA hS (i + 2) (nI_add i 2) (by omega) hL dL_law_318 ?_
  rw [← ea2]
  refine lv_aload_n hx hb dL_law_319 rfl (lv_at hl 0 rfl) ?_
  refine lv_iload_n hx hb dL_law_320 rfl (lv_at hl 3 rfl) ?_
  refine lv_iconst (v := 3) hx hb dL_law_321 (by decide) ?_
  refine lv_iadd hx hb dL_law_322 ?_
  refine xl_sld hx hb hX hbl hbA hS (i + 3) (nI_add i 3) (by omega) hL dL_law_323 ?_
  rw [← ea3]
  refine lv_aload_n hx hb dL_law_324 rfl (lv_at hl 0 rfl) ?_
  refine lv_iload_n hx hb dL_law_325 rfl (lv_at hl 3 rfl) ?_
  refine lv_iconst (v := 4) hx hb dL_law_326 (by decide) ?_
  refine lv_iadd hx hb dL_law_327 ?_
  refine xl_sld hx hb hX hbl hbA hS (i + 4) (nI_add i 4) (by omega) hL dL_law_328 ?_
  rw [← ea4]
  refine xw_c (va_runV (As := [.int a1, .int a2, .int a3, .int a4]) (rest := [.int ((fX6_join σ a1 a2 a3 a4).1)]) ⟨hx, hb, hml, hown, hts⟩ (c_X7_join l dC dI cI cJ r τ a1 a2 a3 a4 F.2.1 hR.IBm) (cwV 4 hts (gV ml_L_37 im_X7_join se_X7_join in_X7 co_X7_join) rfl rfl rfl (by decide +kernel) ⟨Nat.le_of_ble_eq_true rfl, Nat.le_of_ble_eq_true rfl⟩) (preV hK hPM (pos := 0) (ci := 7) rfl rfl) rfl rfl hl.1 rfl (lv_room (Nat.le_of_ble_eq_true rfl)) dL_law_329 ⟨Nat.le_refl _, Nat.le_refl _⟩) hS F.inM (fun H locs hPM hz hk hS => ?_)
  have hPT := keepW hPT rfl (fun i j hi hj e => F.2.2.1 j i hj hi e.symm) hk
  refine W.eq (g2 := F0 m 332 ls [.int ((fX7_join τ a1 a2 a3 a4).1), .int ((fX6_join σ a1 a2 a3 a4).1)]) rfl ?_
  obtain ⟨e1, z, hR2⟩ := hR.join a1 a2 a3 a4
  refine lv_icmp_eq (tgt := 869) hx hb dL_law_332 (by decide) (fun c_1 => ?_) (fun c_1 => absurd e1 c_1)
  exact K _ _ _ _ ⟨z, m', u, v, hR2⟩ hPT hPM hS

set_option maxHeartbeats 4000000 in
set_option maxRecDepth 100000 in
theorem law_c5 {p : Program} {l : Launch} {e : Env} {s : State} {m : MethodId} {below : List Frame} {meth : Method} {c : Code} {dC : Nat → ClassId} {dI : Nat → Nat → Nat} {cI cJ : ClassId} {b L : Nat} {xs : Nat → Int32} (hL : L ≤ 3584) (C0 : lw_At p s m meth c b L xs) (hK : va_K (dC, dI) vwCl (tyC cI cJ) s) {q r : Nat → Nat} (F : LF s q r) {σ τ : St} {n m' u v : Nat} (hR : R σ τ n m' u v) {i : Nat} (hi : i + 7 ≤ L) {H : Heap} {locs : List Loc} (hPT : va_P (dC, dI) vwCl (wT cI cJ q σ) H) (hPM : va_P (dC, dI) vwCl (wM cI cJ r τ) H) (hS : va_S (fun a : Nat => s.heap.size ≤ a) s.heap H locs) {ls : Array Slot} (hl : lv_has ls 4 [(0, .ref b), (1, .ref (q 0)), (2, .ref (r 0)), (3, .int (nI i))]) (K : ∀ (σ τ : St) (H : Heap) (locs : List Loc), (∃ n m u v, R σ τ n m u v) → va_P (dC, dI) vwCl (wT cI cJ q σ) H → va_P (dC, dI) vwCl (wM cI cJ r τ) H → va_S (fun a : Nat => s.heap.size ≤ a) s.heap H locs → W p l e room_1 s m #[Value.ref b] below meth c H locs 600000 7302250 (lw_Z below #[Value.ref b] s) (F0 m 869 ls [])) : W p l e room_1 s m #[Value.ref b] below meth c H locs 600000 7302250 (lw_Z below #[Value.ref b] s) (F0 m 337 ls []) := by
  obtain ⟨hx, hb, hr, hml, hown, hts, hX, hbl, hlocks, hgv⟩ := C0
  have hown : s.vm.findClass RL = some m.cls := hown
  have hts : ∀ w ∈ tb, w.before #[Value.ref b] s = true := fun w hw => hts w (List.mem_filter.mp hw).1
  have hbA : ¬ (fun a : Nat => s.heap.size ≤ a) b := Nat.not_le.mpr hbl
  obtain ⟨a1, ea1⟩ : ∃ y, y = xs (i + 1) := ⟨_, rfl⟩
  obtain ⟨a2, ea2⟩ : ∃ y, y = xs (i + 2) := ⟨_, rfl⟩
  obtain ⟨a3, ea3⟩ : ∃ y, y = xs (i + 3) := ⟨_, rfl⟩
  obtain ⟨a4, ea4⟩ : ∃ y, y = xs (i + 4) := ⟨_, rfl⟩
  obtain ⟨a5, ea5⟩ : ∃ y, y = xs (i + 5) := ⟨_, rfl⟩
  obtain ⟨a6, ea6⟩ : ∃ y, y = xs (i + 6) := ⟨_, rfl⟩
  refine lv_aload_n hx hb dL_law_337 rfl (lv_at hl 1 rfl) ?_
  refine lv_aload_n hx hb dL_law_338 rfl (lv_at hl 0 rfl) ?_
  refine lv_iload_n hx hb dL_law_339 rfl (lv_at hl 3 rfl) ?_
  refine lv_iconst (v := 1) hx hb dL_law_340 (by decide) ?_
  refine lv_iadd hx hb dL_law_341 ?_
  refine xl_sld hx hb hX hbl hbA hS (i + 1) (nI_add i 1) (by omega) hL dL_law_342 ?_
  rw [← ea1]
  refine lv_aload_n hx hb dL_law_343 rfl (lv_at hl 0 rfl) ?_
  refine lv_iload_n hx hb dL_law_344 rfl (lv_at hl 3 rfl) ?_
  refine lv_iconst (v := 2) hx hb dL_law_345 (by decide) ?_
  refine lv_iadd hx hb dL_law_346 ?_
  refine xl_sld hx hb hX hbl hbA hS (i + 2) (nI_add i 2) (by omega) hL dL_law_347 ?_
  rw [← ea2]
  refine lv_aload_n hx hb dL_law_348 rfl (lv_at hl 0 rfl) ?_
  refine lv_iload_n hx hb dL_law_349 rfl (lv_at hl 3 rfl) ?_
  refine lv_iconst (v := 3) hx hb dL_law_350 (by decide) ?_
  refine lv_iadd hx hb dL_law_351 ?_
  refine xl_sld hx hb hX hbl hbA hS (i + 3) (nI_add i 3) (by omega) hL dL_law_352 ?_
  rw [← ea3]
  refine lv_aload_n hx hb dL_law_353 rfl (lv_at hl 0 rfl) ?_
  refine lv_iload_n hx hb dL_law_354 rfl (lv_at hl 3 rfl) ?_
  refine lv_iconst (v := 4) hx hb dL_law_355 (by decide) ?_
  refine lv_iadd hx hb dL_law_356 ?_
  refine xl_sld hx hb hX hbl hbA hS (i + 4) (nI_add i 4) (by omega) hL dL_law_357 ?_
  rw [← ea4]
  refine xw_c (va_runV (As := [.int a1, .int a2, .int a3, .int a4]) (rest := []) ⟨hx, hb, hml, hown, hts⟩ (c_X6_mark l dC dI cI cJ q σ a1 a2 a3 a4 F.1 hR.IBc) (cwV 4 hts (gV ml_L_38 im_X6_mark se_X6_mark in_X6 co_X6_mark) rfl rfl rfl (by decide +kernel) ⟨Nat.le_of_ble_eq_true rfl, Nat.le_of_ble_eq_true rfl⟩) (preV hK hPT (pos := 0) (ci := 6) rfl rfl) rfl rfl hl.1 rfl (lv_room (Nat.le_of_ble_eq_true rfl)) dL_law_358 ⟨Nat.le_refl _, Nat.le_refl _⟩) hS F.inT (fun H locs hPT hz hk hS => ?_)
  have hPM := keepW hPM rfl F.2.2.1 hk
  refine W.eq (g2 := F0 m 361 ls [.int ((fX6_mark σ a1 a2 a3 a4).1)]) rfl ?_
  refine lv_aload_n hx hb dL_law_361 rfl (lv_at hl 2 rfl) ?_
  refine lv_aload_n hx hb dL_law_362 rfl (lv_at hl 0 rfl) ?_
  refine lv_iload_n hx hb dL_law_363 rfl (lv_at hl 3 rfl) ?_
  refine lv_iconst (v := 1) hx hb dL_law_364 (by decide) ?_
  refine lv_iadd hx hb dL_law_365 ?_
  refine xl_sld hx hb hX hbl hbA hS (i + 1) (nI_add i 1) (by omega) hL dL_law_366 ?_
  rw [← ea1]
  refine lv_aload_n hx hb dL_law_367 rfl (lv_at hl 0 rfl) ?_
  refine lv_iload_n hx hb dL_law_368 rfl (lv_at hl 3 rfl) ?_
  refine lv_iconst (v := 2) hx hb dL_law_369 (by decide) ?_
  refine lv_iadd hx hb dL_law_370 ?_
  refine xl_sld hx hb hX hbl hbA hS (i + 2) (nI_add i 2) (by omega) hL dL_law_371 ?_
  rw [← ea2]
  refine lv_aload_n hx hb dL_law_372 rfl (lv_at hl 0 rfl) ?_
  refine lv_iload_n hx hb dL_law_373 rfl (lv_at hl 3 rfl) ?_
  refine lv_iconst (v := 3) hx hb dL_law_374 (by decide) ?_
  refine lv_iadd hx hb dL_law_375 ?_
  refine xl_sld hx hb hX hbl hbA hS (i + 3) (nI_add i 3) (by omega) hL dL_law_376 ?_
  rw [← ea3]
  refine lv_aload_n hx hb dL_law_377 rfl (lv_at hl 0 rfl) ?_
  refine lv_iload_n hx hb dL_law_378 rfl (lv_at hl 3 rfl) ?_
  refine lv_iconst (v := 4) hx hb dL_law_379 (by decide) ?_
  refine lv_iadd hx hb dL_law_380 ?_
  refine xl_sld hx hb hX hbl hbA hS (i + 4) (nI_add i 4) (by omega) hL dL_law_381 ?_
  rw [← ea4]
  refine xw_c (va_runV (As := [.int a1, .int a2, .int a3, .int a4]) (rest := [.int ((fX6_mark σ a1 a2 a3 a4).1)]) ⟨hx, hb, hml, hown, hts⟩ (c_X7_mark l dC dI cI cJ r τ a1 a2 a3 a4 F.2.1 hR.IBm) (cwV 4 hts (gV ml_L_42 im_X7_mark se_X7_mark in_X7 co_X7_mark) rfl rfl rfl (by decide +kernel) ⟨Nat.le_of_ble_eq_true rfl, Nat.le_of_ble_eq_true rfl⟩) (preV hK hPM (pos := 0) (ci := 7) rfl rfl) rfl rfl hl.1 rfl (lv_room (Nat.le_of_ble_eq_true rfl)) dL_law_382 ⟨Nat.le_refl _, Nat.le_refl _⟩) hS F.inM (fun H locs hPM hz hk hS => ?_)
  have hPT := keepW hPT rfl (fun i j hi hj e => F.2.2.1 j i hj hi e.symm) hk
  refine W.eq (g2 := F0 m 385 ls [.int ((fX7_mark τ a1 a2 a3 a4).1), .int ((fX6_mark σ a1 a2 a3 a4).1)]) rfl ?_
  obtain ⟨e1, z, hR2⟩ := hR.mark a1 a2 a3 a4
  refine lv_icmp_eq (tgt := 869) hx hb dL_law_385 (by decide) (fun c_1 => ?_) (fun c_1 => absurd e1 c_1)
  exact K _ _ _ _ ⟨n, m', z, v, hR2⟩ hPT hPM hS

set_option maxHeartbeats 4000000 in
set_option maxRecDepth 100000 in
theorem law_c6 {p : Program} {l : Launch} {e : Env} {s : State} {m : MethodId} {below : List Frame} {meth : Method} {c : Code} {dC : Nat → ClassId} {dI : Nat → Nat → Nat} {cI cJ : ClassId} {b L : Nat} {xs : Nat → Int32} (hL : L ≤ 3584) (C0 : lw_At p s m meth c b L xs) (hK : va_K (dC, dI) vwCl (tyC cI cJ) s) {q r : Nat → Nat} (F : LF s q r) {σ τ : St} {n m' u v : Nat} (hR : R σ τ n m' u v) {i : Nat} (hi : i + 7 ≤ L) {H : Heap} {locs : List Loc} (hPT : va_P (dC, dI) vwCl (wT cI cJ q σ) H) (hPM : va_P (dC, dI) vwCl (wM cI cJ r τ) H) (hS : va_S (fun a : Nat => s.heap.size ≤ a) s.heap H locs) {ls : Array Slot} (hl : lv_has ls 4 [(0, .ref b), (1, .ref (q 0)), (2, .ref (r 0)), (3, .int (nI i))]) (K : ∀ (σ τ : St) (H : Heap) (locs : List Loc), (∃ n m u v, R σ τ n m u v) → va_P (dC, dI) vwCl (wT cI cJ q σ) H → va_P (dC, dI) vwCl (wM cI cJ r τ) H → va_S (fun a : Nat => s.heap.size ≤ a) s.heap H locs → W p l e room_1 s m #[Value.ref b] below meth c H locs 600000 7302250 (lw_Z below #[Value.ref b] s) (F0 m 869 ls [])) : W p l e room_1 s m #[Value.ref b] below meth c H locs 600000 7302250 (lw_Z below #[Value.ref b] s) (F0 m 390 ls []) := by
  obtain ⟨hx, hb, hr, hml, hown, hts, hX, hbl, hlocks, hgv⟩ := C0
  have hown : s.vm.findClass RL = some m.cls := hown
  have hts : ∀ w ∈ tb, w.before #[Value.ref b] s = true := fun w hw => hts w (List.mem_filter.mp hw).1
  have hbA : ¬ (fun a : Nat => s.heap.size ≤ a) b := Nat.not_le.mpr hbl
  obtain ⟨a1, ea1⟩ : ∃ y, y = xs (i + 1) := ⟨_, rfl⟩
  obtain ⟨a2, ea2⟩ : ∃ y, y = xs (i + 2) := ⟨_, rfl⟩
  obtain ⟨a3, ea3⟩ : ∃ y, y = xs (i + 3) := ⟨_, rfl⟩
  obtain ⟨a4, ea4⟩ : ∃ y, y = xs (i + 4) := ⟨_, rfl⟩
  obtain ⟨a5, ea5⟩ : ∃ y, y = xs (i + 5) := ⟨_, rfl⟩
  obtain ⟨a6, ea6⟩ : ∃ y, y = xs (i + 6) := ⟨_, rfl⟩
  refine lv_aload_n hx hb dL_law_390 rfl (lv_at hl 1 rfl) ?_
  refine lv_aload_n hx hb dL_law_391 rfl (lv_at hl 0 rfl) ?_
  refine lv_iload_n hx hb dL_law_392 rfl (lv_at hl 3 rfl) ?_
  refine lv_iconst (v := 1) hx hb dL_law_393 (by decide) ?_
  refine lv_iadd hx hb dL_law_394 ?_
  refine xl_sld hx hb hX hbl hbA hS (i + 1) (nI_add i 1) (by omega) hL dL_law_395 ?_
  rw [← ea1]
  refine lv_aload_n hx hb dL_law_396 rfl (lv_at hl 0 rfl) ?_
  refine lv_iload_n hx hb dL_law_397 rfl (lv_at hl 3 rfl) ?_
  refine lv_iconst (v := 2) hx hb dL_law_398 (by decide) ?_
  refine lv_iadd hx hb dL_law_399 ?_
  refine xl_sld hx hb hX hbl hbA hS (i + 2) (nI_add i 2) (by omega) hL dL_law_400 ?_
  rw [← ea2]
  refine lv_aload_n hx hb dL_law_401 rfl (lv_at hl 0 rfl) ?_
  refine lv_iload_n hx hb dL_law_402 rfl (lv_at hl 3 rfl) ?_
  refine lv_iconst (v := 3) hx hb dL_law_403 (by decide) ?_
  refine lv_iadd hx hb dL_law_404 ?_
  refine xl_sld hx hb hX hbl hbA hS (i + 3) (nI_add i 3) (by omega) hL dL_law_405 ?_
  rw [← ea3]
  refine xw_c (va_runV (As := [.int a1, .int a2, .int a3]) (rest := []) ⟨hx, hb, hml, hown, hts⟩ (c_X6_fact l dC dI cI cJ q σ a1 a2 a3 F.1 hR.IBc) (cwV 3 hts (gV ml_L_43 im_X6_fact se_X6_fact in_X6 co_X6_fact) rfl rfl rfl (by decide +kernel) ⟨Nat.le_of_ble_eq_true rfl, Nat.le_of_ble_eq_true rfl⟩) (preV hK hPT (pos := 0) (ci := 6) rfl rfl) rfl rfl hl.1 rfl (lv_room (Nat.le_of_ble_eq_true rfl)) dL_law_406 ⟨Nat.le_refl _, Nat.le_refl _⟩) hS F.inT (fun H locs hPT hz hk hS => ?_)
  have hPM := keepW hPM rfl F.2.2.1 hk
  refine W.eq (g2 := F0 m 409 ls [.int ((fX6_fact σ a1 a2 a3).1)]) rfl ?_
  refine lv_aload_n hx hb dL_law_409 rfl (lv_at hl 2 rfl) ?_
  refine lv_aload_n hx hb dL_law_410 rfl (lv_at hl 0 rfl) ?_
  refine lv_iload_n hx hb dL_law_411 rfl (lv_at hl 3 rfl) ?_
  refine lv_iconst (v := 1) hx hb dL_law_412 (by decide) ?_
  refine lv_iadd hx hb dL_law_413 ?_
  refine xl_sld hx hb hX hbl hbA hS (i + 1) (nI_add i 1) (by omega) hL dL_law_414 ?_
  rw [← ea1]
  refine lv_aload_n hx hb dL_law_415 rfl (lv_at hl 0 rfl) ?_
  refine lv_iload_n hx hb dL_law_416 rfl (lv_at hl 3 rfl) ?_
  refine lv_iconst (v := 2) hx hb dL_law_417 (by decide) ?_
  refine lv_iadd hx hb dL_law_418 ?_
  refine xl_sld hx hb hX hbl hbA hS (i + 2) (nI_add i 2) (by omega) hL dL_law_419 ?_
  rw [← ea2]
  refine lv_aload_n hx hb dL_law_420 rfl (lv_at hl 0 rfl) ?_
  refine lv_iload_n hx hb dL_law_421 rfl (lv_at hl 3 rfl) ?_
  refine lv_iconst (v := 3) hx hb dL_law_422 (by decide) ?_
  refine lv_iadd hx hb dL_law_423 ?_
  refine xl_sld hx hb hX hbl hbA hS (i + 3) (nI_add i 3) (by omega) hL dL_law_424 ?_
  rw [← ea3]
  refine xw_c (va_runV (As := [.int a1, .int a2, .int a3]) (rest := [.int ((fX6_fact σ a1 a2 a3).1)]) ⟨hx, hb, hml, hown, hts⟩ (c_X7_fact l dC dI cI cJ r τ a1 a2 a3 F.2.1 hR.IBm) (cwV 3 hts (gV ml_L_47 im_X7_fact se_X7_fact in_X7 co_X7_fact) rfl rfl rfl (by decide +kernel) ⟨Nat.le_of_ble_eq_true rfl, Nat.le_of_ble_eq_true rfl⟩) (preV hK hPM (pos := 0) (ci := 7) rfl rfl) rfl rfl hl.1 rfl (lv_room (Nat.le_of_ble_eq_true rfl)) dL_law_425 ⟨Nat.le_refl _, Nat.le_refl _⟩) hS F.inM (fun H locs hPM hz hk hS => ?_)
  have hPT := keepW hPT rfl (fun i j hi hj e => F.2.2.1 j i hj hi e.symm) hk
  refine W.eq (g2 := F0 m 428 ls [.int ((fX7_fact τ a1 a2 a3).1), .int ((fX6_fact σ a1 a2 a3).1)]) rfl ?_
  obtain ⟨e1, z, hR2⟩ := hR.fact a1 a2 a3
  refine lv_icmp_eq (tgt := 869) hx hb dL_law_428 (by decide) (fun c_1 => ?_) (fun c_1 => absurd e1 c_1)
  exact K _ _ _ _ ⟨n, m', u, z, hR2⟩ hPT hPM hS

set_option maxHeartbeats 4000000 in
set_option maxRecDepth 100000 in
theorem law_c7 {p : Program} {l : Launch} {e : Env} {s : State} {m : MethodId} {below : List Frame} {meth : Method} {c : Code} {dC : Nat → ClassId} {dI : Nat → Nat → Nat} {cI cJ : ClassId} {b L : Nat} {xs : Nat → Int32} (hL : L ≤ 3584) (C0 : lw_At p s m meth c b L xs) (hK : va_K (dC, dI) vwCl (tyC cI cJ) s) {q r : Nat → Nat} (F : LF s q r) {σ τ : St} {n m' u v : Nat} (hR : R σ τ n m' u v) {i : Nat} (hi : i + 7 ≤ L) {H : Heap} {locs : List Loc} (hPT : va_P (dC, dI) vwCl (wT cI cJ q σ) H) (hPM : va_P (dC, dI) vwCl (wM cI cJ r τ) H) (hS : va_S (fun a : Nat => s.heap.size ≤ a) s.heap H locs) {ls : Array Slot} (hl : lv_has ls 4 [(0, .ref b), (1, .ref (q 0)), (2, .ref (r 0)), (3, .int (nI i))]) (K : ∀ (σ τ : St) (H : Heap) (locs : List Loc), (∃ n m u v, R σ τ n m u v) → va_P (dC, dI) vwCl (wT cI cJ q σ) H → va_P (dC, dI) vwCl (wM cI cJ r τ) H → va_S (fun a : Nat => s.heap.size ≤ a) s.heap H locs → W p l e room_1 s m #[Value.ref b] below meth c H locs 600000 7302250 (lw_Z below #[Value.ref b] s) (F0 m 869 ls [])) : W p l e room_1 s m #[Value.ref b] below meth c H locs 600000 7302250 (lw_Z below #[Value.ref b] s) (F0 m 433 ls []) := by
  obtain ⟨hx, hb, hr, hml, hown, hts, hX, hbl, hlocks, hgv⟩ := C0
  have hown : s.vm.findClass RL = some m.cls := hown
  have hts : ∀ w ∈ tb, w.before #[Value.ref b] s = true := fun w hw => hts w (List.mem_filter.mp hw).1
  have hbA : ¬ (fun a : Nat => s.heap.size ≤ a) b := Nat.not_le.mpr hbl
  obtain ⟨a1, ea1⟩ : ∃ y, y = xs (i + 1) := ⟨_, rfl⟩
  obtain ⟨a2, ea2⟩ : ∃ y, y = xs (i + 2) := ⟨_, rfl⟩
  obtain ⟨a3, ea3⟩ : ∃ y, y = xs (i + 3) := ⟨_, rfl⟩
  obtain ⟨a4, ea4⟩ : ∃ y, y = xs (i + 4) := ⟨_, rfl⟩
  obtain ⟨a5, ea5⟩ : ∃ y, y = xs (i + 5) := ⟨_, rfl⟩
  obtain ⟨a6, ea6⟩ : ∃ y, y = xs (i + 6) := ⟨_, rfl⟩
  refine lv_aload_n hx hb dL_law_433 rfl (lv_at hl 1 rfl) ?_
  refine xw_c (va_runV (As := []) (rest := []) ⟨hx, hb, hml, hown, hts⟩ (c_X6_load l dC dI cI cJ q σ  F.1 hR.IBc) (cwV 0 hts (gV ml_L_48 im_X6_load se_X6_load in_X6 co_X6_load) rfl rfl rfl (by decide +kernel) ⟨Nat.le_of_ble_eq_true rfl, Nat.le_of_ble_eq_true rfl⟩) (preV hK hPT (pos := 0) (ci := 6) rfl rfl) rfl rfl hl.1 rfl (lv_room (Nat.le_of_ble_eq_true rfl)) dL_law_434 ⟨Nat.le_refl _, Nat.le_refl _⟩) hS F.inT (fun H locs hPT hz hk hS => ?_)
  have hPM := keepW hPM rfl F.2.2.1 hk
  refine W.eq (g2 := F0 m 437 ls [.int ((fX6_load σ).1)]) rfl ?_
  refine lv_aload_n hx hb dL_law_437 rfl (lv_at hl 2 rfl) ?_
  refine xw_c (va_runV (As := []) (rest := [.int ((fX6_load σ).1)]) ⟨hx, hb, hml, hown, hts⟩ (c_X7_load l dC dI cI cJ r τ  F.2.1) (cwV 0 hts (gV ml_L_52 im_X7_load se_X7_load in_X7 co_X7_load) rfl rfl rfl (by decide +kernel) ⟨Nat.le_of_ble_eq_true rfl, Nat.le_of_ble_eq_true rfl⟩) (preV hK hPM (pos := 0) (ci := 7) rfl rfl) rfl rfl hl.1 rfl (lv_room (Nat.le_of_ble_eq_true rfl)) dL_law_438 ⟨Nat.le_refl _, Nat.le_refl _⟩) hS F.inM (fun H locs hPM hz hk hS => ?_)
  have hPT := keepW hPT rfl (fun i j hi hj e => F.2.2.1 j i hj hi e.symm) hk
  refine W.eq (g2 := F0 m 441 ls [.int ((fX7_load τ).1), .int ((fX6_load σ).1)]) rfl ?_
  obtain ⟨e1, z, hR2⟩ := hR.load 
  refine lv_icmp_eq (tgt := 869) hx hb dL_law_441 (by decide) (fun c_1 => ?_) (fun c_1 => absurd e1 c_1)
  exact K _ _ _ _ ⟨n, z, u, v, hR2⟩ hPT hPM hS

set_option maxHeartbeats 4000000 in
set_option maxRecDepth 100000 in
theorem law_c8 {p : Program} {l : Launch} {e : Env} {s : State} {m : MethodId} {below : List Frame} {meth : Method} {c : Code} {dC : Nat → ClassId} {dI : Nat → Nat → Nat} {cI cJ : ClassId} {b L : Nat} {xs : Nat → Int32} (hL : L ≤ 3584) (C0 : lw_At p s m meth c b L xs) (hK : va_K (dC, dI) vwCl (tyC cI cJ) s) {q r : Nat → Nat} (F : LF s q r) {σ τ : St} {n m' u v : Nat} (hR : R σ τ n m' u v) {i : Nat} (hi : i + 7 ≤ L) {H : Heap} {locs : List Loc} (hPT : va_P (dC, dI) vwCl (wT cI cJ q σ) H) (hPM : va_P (dC, dI) vwCl (wM cI cJ r τ) H) (hS : va_S (fun a : Nat => s.heap.size ≤ a) s.heap H locs) {ls : Array Slot} (hl : lv_has ls 4 [(0, .ref b), (1, .ref (q 0)), (2, .ref (r 0)), (3, .int (nI i))]) (K : ∀ (σ τ : St) (H : Heap) (locs : List Loc), (∃ n m u v, R σ τ n m u v) → va_P (dC, dI) vwCl (wT cI cJ q σ) H → va_P (dC, dI) vwCl (wM cI cJ r τ) H → va_S (fun a : Nat => s.heap.size ≤ a) s.heap H locs → W p l e room_1 s m #[Value.ref b] below meth c H locs 600000 7302250 (lw_Z below #[Value.ref b] s) (F0 m 869 ls [])) : W p l e room_1 s m #[Value.ref b] below meth c H locs 600000 7302250 (lw_Z below #[Value.ref b] s) (F0 m 446 ls []) := by
  obtain ⟨hx, hb, hr, hml, hown, hts, hX, hbl, hlocks, hgv⟩ := C0
  have hown : s.vm.findClass RL = some m.cls := hown
  have hts : ∀ w ∈ tb, w.before #[Value.ref b] s = true := fun w hw => hts w (List.mem_filter.mp hw).1
  have hbA : ¬ (fun a : Nat => s.heap.size ≤ a) b := Nat.not_le.mpr hbl
  obtain ⟨a1, ea1⟩ : ∃ y, y = xs (i + 1) := ⟨_, rfl⟩
  obtain ⟨a2, ea2⟩ : ∃ y, y = xs (i + 2) := ⟨_, rfl⟩
  obtain ⟨a3, ea3⟩ : ∃ y, y = xs (i + 3) := ⟨_, rfl⟩
  obtain ⟨a4, ea4⟩ : ∃ y, y = xs (i + 4) := ⟨_, rfl⟩
  obtain ⟨a5, ea5⟩ : ∃ y, y = xs (i + 5) := ⟨_, rfl⟩
  obtain ⟨a6, ea6⟩ : ∃ y, y = xs (i + 6) := ⟨_, rfl⟩
  refine lv_aload_n hx hb dL_law_446 rfl (lv_at hl 1 rfl) ?_
  refine lv_aload_n hx hb dL_law_447 rfl (lv_at hl 0 rfl) ?_
  refine lv_iload_n hx hb dL_law_448 rfl (lv_at hl 3 rfl) ?_
  refine lv_iconst (v := 1) hx hb dL_law_449 (by decide) ?_
  refine lv_iadd hx hb dL_law_450 ?_
  refine xl_sld hx hb hX hbl hbA hS (i + 1) (nI_add i 1) (by omega) hL dL_law_451 ?_
  rw [← ea1]
  refine xw_c (va_runV (As := [.int a1]) (rest := []) ⟨hx, hb, hml, hown, hts⟩ (c_X6_undo l dC dI cI cJ q σ a1 F.1 hR.IBc) (cwV 1 hts (gV ml_L_53 im_X6_undo se_X6_undo in_X6 co_X6_undo) rfl rfl rfl (by decide +kernel) ⟨Nat.le_of_ble_eq_true rfl, Nat.le_of_ble_eq_true rfl⟩) (preV hK hPT (pos := 0) (ci := 6) rfl rfl) rfl rfl hl.1 rfl (lv_room (Nat.le_of_ble_eq_true rfl)) dL_law_452 ⟨Nat.le_refl _, Nat.le_refl _⟩) hS F.inT (fun H locs hPT hz hk hS => ?_)
  have hPM := keepW hPM rfl F.2.2.1 hk
  refine W.eq (g2 := F0 m 455 ls [.int ((fX6_undo σ a1).1)]) rfl ?_
  refine lv_aload_n hx hb dL_law_455 rfl (lv_at hl 2 rfl) ?_
  refine lv_aload_n hx hb dL_law_456 rfl (lv_at hl 0 rfl) ?_
  refine lv_iload_n hx hb dL_law_457 rfl (lv_at hl 3 rfl) ?_
  refine lv_iconst (v := 1) hx hb dL_law_458 (by decide) ?_
  refine lv_iadd hx hb dL_law_459 ?_
  refine xl_sld hx hb hX hbl hbA hS (i + 1) (nI_add i 1) (by omega) hL dL_law_460 ?_
  rw [← ea1]
  refine xw_c (va_runV (As := [.int a1]) (rest := [.int ((fX6_undo σ a1).1)]) ⟨hx, hb, hml, hown, hts⟩ (c_X7_undo l dC dI cI cJ r τ a1 F.2.1 hR.IBm) (cwV 1 hts (gV ml_L_57 im_X7_undo se_X7_undo in_X7 co_X7_undo) rfl rfl rfl (by decide +kernel) ⟨Nat.le_of_ble_eq_true rfl, Nat.le_of_ble_eq_true rfl⟩) (preV hK hPM (pos := 0) (ci := 7) rfl rfl) rfl rfl hl.1 rfl (lv_room (Nat.le_of_ble_eq_true rfl)) dL_law_461 ⟨Nat.le_refl _, Nat.le_refl _⟩) hS F.inM (fun H locs hPM hz hk hS => ?_)
  have hPT := keepW hPT rfl (fun i j hi hj e => F.2.2.1 j i hj hi e.symm) hk
  refine W.eq (g2 := F0 m 464 ls [.int ((fX7_undo τ a1).1), .int ((fX6_undo σ a1).1)]) rfl ?_
  obtain ⟨e1, hR2⟩ := hR.undo a1
  refine lv_icmp_eq (tgt := 869) hx hb dL_law_464 (by decide) (fun c_1 => ?_) (fun c_1 => absurd e1 c_1)
  exact K _ _ _ _ ⟨n, m', u, v, hR2⟩ hPT hPM hS

set_option maxHeartbeats 4000000 in
set_option maxRecDepth 100000 in
theorem law_c9 {p : Program} {l : Launch} {e : Env} {s : State} {m : MethodId} {below : List Frame} {meth : Method} {c : Code} {dC : Nat → ClassId} {dI : Nat → Nat → Nat} {cI cJ : ClassId} {b L : Nat} {xs : Nat → Int32} (hL : L ≤ 3584) (C0 : lw_At p s m meth c b L xs) (hK : va_K (dC, dI) vwCl (tyC cI cJ) s) {q r : Nat → Nat} (F : LF s q r) {σ τ : St} {n m' u v : Nat} (hR : R σ τ n m' u v) {i : Nat} (hi : i + 7 ≤ L) {H : Heap} {locs : List Loc} (hPT : va_P (dC, dI) vwCl (wT cI cJ q σ) H) (hPM : va_P (dC, dI) vwCl (wM cI cJ r τ) H) (hS : va_S (fun a : Nat => s.heap.size ≤ a) s.heap H locs) {ls : Array Slot} (hl : lv_has ls 4 [(0, .ref b), (1, .ref (q 0)), (2, .ref (r 0)), (3, .int (nI i))]) (K : ∀ (σ τ : St) (H : Heap) (locs : List Loc), (∃ n m u v, R σ τ n m u v) → va_P (dC, dI) vwCl (wT cI cJ q σ) H → va_P (dC, dI) vwCl (wM cI cJ r τ) H → va_S (fun a : Nat => s.heap.size ≤ a) s.heap H locs → W p l e room_1 s m #[Value.ref b] below meth c H locs 600000 7302250 (lw_Z below #[Value.ref b] s) (F0 m 869 ls [])) : W p l e room_1 s m #[Value.ref b] below meth c H locs 600000 7302250 (lw_Z below #[Value.ref b] s) (F0 m 469 ls []) := by
  obtain ⟨hx, hb, hr, hml, hown, hts, hX, hbl, hlocks, hgv⟩ := C0
  have hown : s.vm.findClass RL = some m.cls := hown
  have hts : ∀ w ∈ tb, w.before #[Value.ref b] s = true := fun w hw => hts w (List.mem_filter.mp hw).1
  have hbA : ¬ (fun a : Nat => s.heap.size ≤ a) b := Nat.not_le.mpr hbl
  obtain ⟨a1, ea1⟩ : ∃ y, y = xs (i + 1) := ⟨_, rfl⟩
  obtain ⟨a2, ea2⟩ : ∃ y, y = xs (i + 2) := ⟨_, rfl⟩
  obtain ⟨a3, ea3⟩ : ∃ y, y = xs (i + 3) := ⟨_, rfl⟩
  obtain ⟨a4, ea4⟩ : ∃ y, y = xs (i + 4) := ⟨_, rfl⟩
  obtain ⟨a5, ea5⟩ : ∃ y, y = xs (i + 5) := ⟨_, rfl⟩
  obtain ⟨a6, ea6⟩ : ∃ y, y = xs (i + 6) := ⟨_, rfl⟩
  refine lv_aload_n hx hb dL_law_469 rfl (lv_at hl 1 rfl) ?_
  refine lv_aload_n hx hb dL_law_470 rfl (lv_at hl 0 rfl) ?_
  refine lv_iload_n hx hb dL_law_471 rfl (lv_at hl 3 rfl) ?_
  refine lv_iconst (v := 1) hx hb dL_law_472 (by decide) ?_
  refine lv_iadd hx hb dL_law_473 ?_
  refine xl_sld hx hb hX hbl hbA hS (i + 1) (nI_add i 1) (by omega) hL dL_law_474 ?_
  rw [← ea1]
  refine lv_aload_n hx hb dL_law_475 rfl (lv_at hl 0 rfl) ?_
  refine lv_iload_n hx hb dL_law_476 rfl (lv_at hl 3 rfl) ?_
  refine lv_iconst (v := 2) hx hb dL_law_477 (by decide) ?_
  refine lv_iadd hx hb dL_law_478 ?_
  refine xl_sld hx hb hX hbl hbA hS (i + 2) (nI_add i 2) (by omega) hL dL_law_479 ?_
  rw [← ea2]
  refine lv_aload_n hx hb dL_law_480 rfl (lv_at hl 0 rfl) ?_
  refine lv_iload_n hx hb dL_law_481 rfl (lv_at hl 3 rfl) ?_
  refine lv_iconst (v := 3) hx hb dL_law_482 (by decide) ?_
  refine lv_iadd hx hb dL_law_483 ?_
  refine xl_sld hx hb hX hbl hbA hS (i + 3) (nI_add i 3) (by omega) hL dL_law_484 ?_
  rw [← ea3]
  refine lv_aload_n hx hb dL_law_485 rfl (lv_at hl 0 rfl) ?_
  refine lv_iload_n hx hb dL_law_486 rfl (lv_at hl 3 rfl) ?_
  refine lv_iconst (v := 4) hx hb dL_law_487 (by decide) ?_
  refine lv_iadd hx hb dL_law_488 ?_
  refine xl_sld hx hb hX hbl hbA hS (i + 4) (nI_add i 4) (by omega) hL dL_law_489 ?_
  rw [← ea4]
  refine xc_i (va_runV (As := [.int a1, .int a2, .int a3, .int a4]) (rest := []) ⟨hx, hb, hml, hown, hts⟩ (c_X6_told l dC dI cI cJ q σ a1 a2 a3 a4 hR.IBc) (cwV 4 hts (gV ml_L_58 im_X6_told se_X6_told in_X6 co_X6_told) rfl rfl rfl (by decide +kernel) ⟨Nat.le_of_ble_eq_true rfl, Nat.le_of_ble_eq_true rfl⟩) (preV hK hPT (pos := 0) (ci := 6) rfl rfl) rfl rfl hl.1 rfl (lv_room (Nat.le_of_ble_eq_true rfl)) dL_law_490 ⟨Nat.le_refl _, Nat.le_refl _⟩) ?_
  refine lv_aload_n hx hb dL_law_493 rfl (lv_at hl 2 rfl) ?_
  refine lv_aload_n hx hb dL_law_494 rfl (lv_at hl 0 rfl) ?_
  refine lv_iload_n hx hb dL_law_495 rfl (lv_at hl 3 rfl) ?_
  refine lv_iconst (v := 1) hx hb dL_law_496 (by decide) ?_
  refine lv_iadd hx hb dL_law_497 ?_
  refine xl_sld hx hb hX hbl hbA hS (i + 1) (nI_add i 1) (by omega) hL dL_law_498 ?_
  rw [← ea1]
  refine lv_aload_n hx hb dL_law_499 rfl (lv_at hl 0 rfl) ?_
  refine lv_iload_n hx hb dL_law_500 rfl (lv_at hl 3 rfl) ?_
  refine lv_iconst (v := 2) hx hb dL_law_501 (by decide) ?_
  refine lv_iadd hx hb dL_law_502 ?_
  refine xl_sld hx hb hX hbl hbA hS (i + 2) (nI_add i 2) (by omega) hL dL_law_503 ?_
  rw [← ea2]
  refine lv_aload_n hx hb dL_law_504 rfl (lv_at hl 0 rfl) ?_
  refine lv_iload_n hx hb dL_law_505 rfl (lv_at hl 3 rfl) ?_
  refine lv_iconst (v := 3) hx hb dL_law_506 (by decide) ?_
  refine lv_iadd hx hb dL_law_507 ?_
  refine xl_sld hx hb hX hbl hbA hS (i + 3) (nI_add i 3) (by omega) hL dL_law_508 ?_
  rw [← ea3]
  refine lv_aload_n hx hb dL_law_509 rfl (lv_at hl 0 rfl) ?_
  refine lv_iload_n hx hb dL_law_510 rfl (lv_at hl 3 rfl) ?_
  refine lv_iconst (v := 4) hx hb dL_law_511 (by decide) ?_
  refine lv_iadd hx hb dL_law_512 ?_
  refine xl_sld hx hb hX hbl hbA hS (i + 4) (nI_add i 4) (by omega) hL dL_law_513 ?_
  rw [← ea4]
  refine xc_i (va_runV (As := [.int a1, .int a2, .int a3, .int a4]) (rest := [.int (fX6_told σ a1 a2 a3 a4)]) ⟨hx, hb, hml, hown, hts⟩ (c_X7_told l dC dI cI cJ r τ a1 a2 a3 a4 hR.IBm) (cwV 4 hts (gV ml_L_61 im_X7_told se_X7_told in_X7 co_X7_told) rfl rfl rfl (by decide +kernel) ⟨Nat.le_of_ble_eq_true rfl, Nat.le_of_ble_eq_true rfl⟩) (preV hK hPM (pos := 0) (ci := 7) rfl rfl) rfl rfl hl.1 rfl (lv_room (Nat.le_of_ble_eq_true rfl)) dL_law_514 ⟨Nat.le_refl _, Nat.le_refl _⟩) ?_
  have e1 := hR.told a1 a2 a3 a4
  refine lv_icmp_eq (tgt := 869) hx hb dL_law_517 (by decide) (fun c_1 => ?_) (fun c_1 => absurd e1 c_1)
  exact K _ _ _ _ ⟨n, m', u, v, hR⟩ hPT hPM hS

set_option maxHeartbeats 4000000 in
set_option maxRecDepth 100000 in
theorem law_c10 {p : Program} {l : Launch} {e : Env} {s : State} {m : MethodId} {below : List Frame} {meth : Method} {c : Code} {dC : Nat → ClassId} {dI : Nat → Nat → Nat} {cI cJ : ClassId} {b L : Nat} {xs : Nat → Int32} (hL : L ≤ 3584) (C0 : lw_At p s m meth c b L xs) (hK : va_K (dC, dI) vwCl (tyC cI cJ) s) {q r : Nat → Nat} (F : LF s q r) {σ τ : St} {n m' u v : Nat} (hR : R σ τ n m' u v) {i : Nat} (hi : i + 7 ≤ L) {H : Heap} {locs : List Loc} (hPT : va_P (dC, dI) vwCl (wT cI cJ q σ) H) (hPM : va_P (dC, dI) vwCl (wM cI cJ r τ) H) (hS : va_S (fun a : Nat => s.heap.size ≤ a) s.heap H locs) {ls : Array Slot} (hl : lv_has ls 4 [(0, .ref b), (1, .ref (q 0)), (2, .ref (r 0)), (3, .int (nI i))]) (K : ∀ (σ τ : St) (H : Heap) (locs : List Loc), (∃ n m u v, R σ τ n m u v) → va_P (dC, dI) vwCl (wT cI cJ q σ) H → va_P (dC, dI) vwCl (wM cI cJ r τ) H → va_S (fun a : Nat => s.heap.size ≤ a) s.heap H locs → W p l e room_1 s m #[Value.ref b] below meth c H locs 600000 7302250 (lw_Z below #[Value.ref b] s) (F0 m 869 ls [])) : W p l e room_1 s m #[Value.ref b] below meth c H locs 600000 7302250 (lw_Z below #[Value.ref b] s) (F0 m 522 ls []) := by
  obtain ⟨hx, hb, hr, hml, hown, hts, hX, hbl, hlocks, hgv⟩ := C0
  have hown : s.vm.findClass RL = some m.cls := hown
  have hts : ∀ w ∈ tb, w.before #[Value.ref b] s = true := fun w hw => hts w (List.mem_filter.mp hw).1
  have hbA : ¬ (fun a : Nat => s.heap.size ≤ a) b := Nat.not_le.mpr hbl
  obtain ⟨a1, ea1⟩ : ∃ y, y = xs (i + 1) := ⟨_, rfl⟩
  obtain ⟨a2, ea2⟩ : ∃ y, y = xs (i + 2) := ⟨_, rfl⟩
  obtain ⟨a3, ea3⟩ : ∃ y, y = xs (i + 3) := ⟨_, rfl⟩
  obtain ⟨a4, ea4⟩ : ∃ y, y = xs (i + 4) := ⟨_, rfl⟩
  obtain ⟨a5, ea5⟩ : ∃ y, y = xs (i + 5) := ⟨_, rfl⟩
  obtain ⟨a6, ea6⟩ : ∃ y, y = xs (i + 6) := ⟨_, rfl⟩
  refine lv_aload_n hx hb dL_law_522 rfl (lv_at hl 1 rfl) ?_
  refine lv_aload_n hx hb dL_law_523 rfl (lv_at hl 0 rfl) ?_
  refine lv_iload_n hx hb dL_law_524 rfl (lv_at hl 3 rfl) ?_
  refine lv_iconst (v := 1) hx hb dL_law_525 (by decide) ?_
  refine lv_iadd hx hb dL_law_526 ?_
  refine xl_sld hx hb hX hbl hbA hS (i + 1) (nI_add i 1) (by omega) hL dL_law_527 ?_
  rw [← ea1]
  refine lv_aload_n hx hb dL_law_528 rfl (lv_at hl 0 rfl) ?_
  refine lv_iload_n hx hb dL_law_529 rfl (lv_at hl 3 rfl) ?_
  refine lv_iconst (v := 2) hx hb dL_law_530 (by decide) ?_
  refine lv_iadd hx hb dL_law_531 ?_
  refine xl_sld hx hb hX hbl hbA hS (i + 2) (nI_add i 2) (by omega) hL dL_law_532 ?_
  rw [← ea2]
  refine lv_aload_n hx hb dL_law_533 rfl (lv_at hl 0 rfl) ?_
  refine lv_iload_n hx hb dL_law_534 rfl (lv_at hl 3 rfl) ?_
  refine lv_iconst (v := 3) hx hb dL_law_535 (by decide) ?_
  refine lv_iadd hx hb dL_law_536 ?_
  refine xl_sld hx hb hX hbl hbA hS (i + 3) (nI_add i 3) (by omega) hL dL_law_537 ?_
  rw [← ea3]
  refine xc_i (va_runV (As := [.int a1, .int a2, .int a3]) (rest := []) ⟨hx, hb, hml, hown, hts⟩ (c_X6_thing l dC dI cI cJ q σ a1 a2 a3 hR.IBc) (cwV 3 hts (gV ml_L_62 im_X6_thing se_X6_thing in_X6 co_X6_thing) rfl rfl rfl (by decide +kernel) ⟨Nat.le_of_ble_eq_true rfl, Nat.le_of_ble_eq_true rfl⟩) (preV hK hPT (pos := 0) (ci := 6) rfl rfl) rfl rfl hl.1 rfl (lv_room (Nat.le_of_ble_eq_true rfl)) dL_law_538 ⟨Nat.le_refl _, Nat.le_refl _⟩) ?_
  refine lv_aload_n hx hb dL_law_541 rfl (lv_at hl 2 rfl) ?_
  refine lv_aload_n hx hb dL_law_542 rfl (lv_at hl 0 rfl) ?_
  refine lv_iload_n hx hb dL_law_543 rfl (lv_at hl 3 rfl) ?_
  refine lv_iconst (v := 1) hx hb dL_law_544 (by decide) ?_
  refine lv_iadd hx hb dL_law_545 ?_
  refine xl_sld hx hb hX hbl hbA hS (i + 1) (nI_add i 1) (by omega) hL dL_law_546 ?_
  rw [← ea1]
  refine lv_aload_n hx hb dL_law_547 rfl (lv_at hl 0 rfl) ?_
  refine lv_iload_n hx hb dL_law_548 rfl (lv_at hl 3 rfl) ?_
  refine lv_iconst (v := 2) hx hb dL_law_549 (by decide) ?_
  refine lv_iadd hx hb dL_law_550 ?_
  refine xl_sld hx hb hX hbl hbA hS (i + 2) (nI_add i 2) (by omega) hL dL_law_551 ?_
  rw [← ea2]
  refine lv_aload_n hx hb dL_law_552 rfl (lv_at hl 0 rfl) ?_
  refine lv_iload_n hx hb dL_law_553 rfl (lv_at hl 3 rfl) ?_
  refine lv_iconst (v := 3) hx hb dL_law_554 (by decide) ?_
  refine lv_iadd hx hb dL_law_555 ?_
  refine xl_sld hx hb hX hbl hbA hS (i + 3) (nI_add i 3) (by omega) hL dL_law_556 ?_
  rw [← ea3]
  refine xc_i (va_runV (As := [.int a1, .int a2, .int a3]) (rest := [.int (fX6_thing σ a1 a2 a3)]) ⟨hx, hb, hml, hown, hts⟩ (c_X7_thing l dC dI cI cJ r τ a1 a2 a3 hR.IBm) (cwV 3 hts (gV ml_L_65 im_X7_thing se_X7_thing in_X7 co_X7_thing) rfl rfl rfl (by decide +kernel) ⟨Nat.le_of_ble_eq_true rfl, Nat.le_of_ble_eq_true rfl⟩) (preV hK hPM (pos := 0) (ci := 7) rfl rfl) rfl rfl hl.1 rfl (lv_room (Nat.le_of_ble_eq_true rfl)) dL_law_557 ⟨Nat.le_refl _, Nat.le_refl _⟩) ?_
  have e1 := hR.thing a1 a2 a3
  refine lv_icmp_eq (tgt := 869) hx hb dL_law_560 (by decide) (fun c_1 => ?_) (fun c_1 => absurd e1 c_1)
  exact K _ _ _ _ ⟨n, m', u, v, hR⟩ hPT hPM hS

set_option maxHeartbeats 4000000 in
set_option maxRecDepth 100000 in
theorem law_c11 {p : Program} {l : Launch} {e : Env} {s : State} {m : MethodId} {below : List Frame} {meth : Method} {c : Code} {dC : Nat → ClassId} {dI : Nat → Nat → Nat} {cI cJ : ClassId} {b L : Nat} {xs : Nat → Int32} (hL : L ≤ 3584) (C0 : lw_At p s m meth c b L xs) (hK : va_K (dC, dI) vwCl (tyC cI cJ) s) {q r : Nat → Nat} (F : LF s q r) {σ τ : St} {n m' u v : Nat} (hR : R σ τ n m' u v) {i : Nat} (hi : i + 7 ≤ L) {H : Heap} {locs : List Loc} (hPT : va_P (dC, dI) vwCl (wT cI cJ q σ) H) (hPM : va_P (dC, dI) vwCl (wM cI cJ r τ) H) (hS : va_S (fun a : Nat => s.heap.size ≤ a) s.heap H locs) {ls : Array Slot} (hl : lv_has ls 4 [(0, .ref b), (1, .ref (q 0)), (2, .ref (r 0)), (3, .int (nI i))]) (K : ∀ (σ τ : St) (H : Heap) (locs : List Loc), (∃ n m u v, R σ τ n m u v) → va_P (dC, dI) vwCl (wT cI cJ q σ) H → va_P (dC, dI) vwCl (wM cI cJ r τ) H → va_S (fun a : Nat => s.heap.size ≤ a) s.heap H locs → W p l e room_1 s m #[Value.ref b] below meth c H locs 600000 7302250 (lw_Z below #[Value.ref b] s) (F0 m 869 ls [])) : W p l e room_1 s m #[Value.ref b] below meth c H locs 600000 7302250 (lw_Z below #[Value.ref b] s) (F0 m 565 ls []) := by
  obtain ⟨hx, hb, hr, hml, hown, hts, hX, hbl, hlocks, hgv⟩ := C0
  have hown : s.vm.findClass RL = some m.cls := hown
  have hts : ∀ w ∈ tb, w.before #[Value.ref b] s = true := fun w hw => hts w (List.mem_filter.mp hw).1
  have hbA : ¬ (fun a : Nat => s.heap.size ≤ a) b := Nat.not_le.mpr hbl
  obtain ⟨a1, ea1⟩ : ∃ y, y = xs (i + 1) := ⟨_, rfl⟩
  obtain ⟨a2, ea2⟩ : ∃ y, y = xs (i + 2) := ⟨_, rfl⟩
  obtain ⟨a3, ea3⟩ : ∃ y, y = xs (i + 3) := ⟨_, rfl⟩
  obtain ⟨a4, ea4⟩ : ∃ y, y = xs (i + 4) := ⟨_, rfl⟩
  obtain ⟨a5, ea5⟩ : ∃ y, y = xs (i + 5) := ⟨_, rfl⟩
  obtain ⟨a6, ea6⟩ : ∃ y, y = xs (i + 6) := ⟨_, rfl⟩
  refine lv_aload_n hx hb dL_law_565 rfl (lv_at hl 1 rfl) ?_
  refine lv_aload_n hx hb dL_law_566 rfl (lv_at hl 0 rfl) ?_
  refine lv_iload_n hx hb dL_law_567 rfl (lv_at hl 3 rfl) ?_
  refine lv_iconst (v := 1) hx hb dL_law_568 (by decide) ?_
  refine lv_iadd hx hb dL_law_569 ?_
  refine xl_sld hx hb hX hbl hbA hS (i + 1) (nI_add i 1) (by omega) hL dL_law_570 ?_
  rw [← ea1]
  refine lv_aload_n hx hb dL_law_571 rfl (lv_at hl 0 rfl) ?_
  refine lv_iload_n hx hb dL_law_572 rfl (lv_at hl 3 rfl) ?_
  refine lv_iconst (v := 2) hx hb dL_law_573 (by decide) ?_
  refine lv_iadd hx hb dL_law_574 ?_
  refine xl_sld hx hb hX hbl hbA hS (i + 2) (nI_add i 2) (by omega) hL dL_law_575 ?_
  rw [← ea2]
  refine xc_i (va_runV (As := [.int a1, .int a2]) (rest := []) ⟨hx, hb, hml, hown, hts⟩ (c_X6_hangs l dC dI cI cJ q σ a1 a2 hR.IBc) (cwV 2 hts (gV ml_L_66 im_X6_hangs se_X6_hangs in_X6 co_X6_hangs) rfl rfl rfl (by decide +kernel) ⟨Nat.le_of_ble_eq_true rfl, Nat.le_of_ble_eq_true rfl⟩) (preV hK hPT (pos := 0) (ci := 6) rfl rfl) rfl rfl hl.1 rfl (lv_room (Nat.le_of_ble_eq_true rfl)) dL_law_576 ⟨Nat.le_refl _, Nat.le_refl _⟩) ?_
  refine lv_aload_n hx hb dL_law_579 rfl (lv_at hl 2 rfl) ?_
  refine lv_aload_n hx hb dL_law_580 rfl (lv_at hl 0 rfl) ?_
  refine lv_iload_n hx hb dL_law_581 rfl (lv_at hl 3 rfl) ?_
  refine lv_iconst (v := 1) hx hb dL_law_582 (by decide) ?_
  refine lv_iadd hx hb dL_law_583 ?_
  refine xl_sld hx hb hX hbl hbA hS (i + 1) (nI_add i 1) (by omega) hL dL_law_584 ?_
  rw [← ea1]
  refine lv_aload_n hx hb dL_law_585 rfl (lv_at hl 0 rfl) ?_
  refine lv_iload_n hx hb dL_law_586 rfl (lv_at hl 3 rfl) ?_
  refine lv_iconst (v := 2) hx hb dL_law_587 (by decide) ?_
  refine lv_iadd hx hb dL_law_588 ?_
  refine xl_sld hx hb hX hbl hbA hS (i + 2) (nI_add i 2) (by omega) hL dL_law_589 ?_
  rw [← ea2]
  refine xc_i (va_runV (As := [.int a1, .int a2]) (rest := [.int (fX6_hangs σ a1 a2)]) ⟨hx, hb, hml, hown, hts⟩ (c_X7_hangs l dC dI cI cJ r τ a1 a2 hR.IBm) (cwV 2 hts (gV ml_L_69 im_X7_hangs se_X7_hangs in_X7 co_X7_hangs) rfl rfl rfl (by decide +kernel) ⟨Nat.le_of_ble_eq_true rfl, Nat.le_of_ble_eq_true rfl⟩) (preV hK hPM (pos := 0) (ci := 7) rfl rfl) rfl rfl hl.1 rfl (lv_room (Nat.le_of_ble_eq_true rfl)) dL_law_590 ⟨Nat.le_refl _, Nat.le_refl _⟩) ?_
  have e1 := hR.hangs a1 a2
  refine lv_icmp_eq (tgt := 869) hx hb dL_law_593 (by decide) (fun c_1 => ?_) (fun c_1 => absurd e1 c_1)
  exact K _ _ _ _ ⟨n, m', u, v, hR⟩ hPT hPM hS

set_option maxHeartbeats 4000000 in
set_option maxRecDepth 100000 in
theorem law_c12 {p : Program} {l : Launch} {e : Env} {s : State} {m : MethodId} {below : List Frame} {meth : Method} {c : Code} {dC : Nat → ClassId} {dI : Nat → Nat → Nat} {cI cJ : ClassId} {b L : Nat} {xs : Nat → Int32} (hL : L ≤ 3584) (C0 : lw_At p s m meth c b L xs) (hK : va_K (dC, dI) vwCl (tyC cI cJ) s) {q r : Nat → Nat} (F : LF s q r) {σ τ : St} {n m' u v : Nat} (hR : R σ τ n m' u v) {i : Nat} (hi : i + 7 ≤ L) {H : Heap} {locs : List Loc} (hPT : va_P (dC, dI) vwCl (wT cI cJ q σ) H) (hPM : va_P (dC, dI) vwCl (wM cI cJ r τ) H) (hS : va_S (fun a : Nat => s.heap.size ≤ a) s.heap H locs) {ls : Array Slot} (hl : lv_has ls 4 [(0, .ref b), (1, .ref (q 0)), (2, .ref (r 0)), (3, .int (nI i))]) (K : ∀ (σ τ : St) (H : Heap) (locs : List Loc), (∃ n m u v, R σ τ n m u v) → va_P (dC, dI) vwCl (wT cI cJ q σ) H → va_P (dC, dI) vwCl (wM cI cJ r τ) H → va_S (fun a : Nat => s.heap.size ≤ a) s.heap H locs → W p l e room_1 s m #[Value.ref b] below meth c H locs 600000 7302250 (lw_Z below #[Value.ref b] s) (F0 m 869 ls [])) : W p l e room_1 s m #[Value.ref b] below meth c H locs 600000 7302250 (lw_Z below #[Value.ref b] s) (F0 m 598 ls []) := by
  obtain ⟨hx, hb, hr, hml, hown, hts, hX, hbl, hlocks, hgv⟩ := C0
  have hown : s.vm.findClass RL = some m.cls := hown
  have hts : ∀ w ∈ tb, w.before #[Value.ref b] s = true := fun w hw => hts w (List.mem_filter.mp hw).1
  have hbA : ¬ (fun a : Nat => s.heap.size ≤ a) b := Nat.not_le.mpr hbl
  obtain ⟨a1, ea1⟩ : ∃ y, y = xs (i + 1) := ⟨_, rfl⟩
  obtain ⟨a2, ea2⟩ : ∃ y, y = xs (i + 2) := ⟨_, rfl⟩
  obtain ⟨a3, ea3⟩ : ∃ y, y = xs (i + 3) := ⟨_, rfl⟩
  obtain ⟨a4, ea4⟩ : ∃ y, y = xs (i + 4) := ⟨_, rfl⟩
  obtain ⟨a5, ea5⟩ : ∃ y, y = xs (i + 5) := ⟨_, rfl⟩
  obtain ⟨a6, ea6⟩ : ∃ y, y = xs (i + 6) := ⟨_, rfl⟩
  refine lv_aload_n hx hb dL_law_598 rfl (lv_at hl 1 rfl) ?_
  refine lv_aload_n hx hb dL_law_599 rfl (lv_at hl 0 rfl) ?_
  refine lv_iload_n hx hb dL_law_600 rfl (lv_at hl 3 rfl) ?_
  refine lv_iconst (v := 1) hx hb dL_law_601 (by decide) ?_
  refine lv_iadd hx hb dL_law_602 ?_
  refine xl_sld hx hb hX hbl hbA hS (i + 1) (nI_add i 1) (by omega) hL dL_law_603 ?_
  rw [← ea1]
  refine lv_aload_n hx hb dL_law_604 rfl (lv_at hl 0 rfl) ?_
  refine lv_iload_n hx hb dL_law_605 rfl (lv_at hl 3 rfl) ?_
  refine lv_iconst (v := 2) hx hb dL_law_606 (by decide) ?_
  refine lv_iadd hx hb dL_law_607 ?_
  refine xl_sld hx hb hX hbl hbA hS (i + 2) (nI_add i 2) (by omega) hL dL_law_608 ?_
  rw [← ea2]
  refine lv_aload_n hx hb dL_law_609 rfl (lv_at hl 0 rfl) ?_
  refine lv_iload_n hx hb dL_law_610 rfl (lv_at hl 3 rfl) ?_
  refine lv_iconst (v := 3) hx hb dL_law_611 (by decide) ?_
  refine lv_iadd hx hb dL_law_612 ?_
  refine xl_sld hx hb hX hbl hbA hS (i + 3) (nI_add i 3) (by omega) hL dL_law_613 ?_
  rw [← ea3]
  refine xc_i (va_runV (As := [.int a1, .int a2, .int a3]) (rest := []) ⟨hx, hb, hml, hown, hts⟩ (c_X6_find l dC dI cI cJ q σ a1 a2 a3 hR.IBc) (cwV 3 hts (gV ml_L_70 im_X6_find se_X6_find in_X6 co_X6_find) rfl rfl rfl (by decide +kernel) ⟨Nat.le_of_ble_eq_true rfl, Nat.le_of_ble_eq_true rfl⟩) (preV hK hPT (pos := 0) (ci := 6) rfl rfl) rfl rfl hl.1 rfl (lv_room (Nat.le_of_ble_eq_true rfl)) dL_law_614 ⟨Nat.le_refl _, Nat.le_refl _⟩) ?_
  refine lv_aload_n hx hb dL_law_617 rfl (lv_at hl 2 rfl) ?_
  refine lv_aload_n hx hb dL_law_618 rfl (lv_at hl 0 rfl) ?_
  refine lv_iload_n hx hb dL_law_619 rfl (lv_at hl 3 rfl) ?_
  refine lv_iconst (v := 1) hx hb dL_law_620 (by decide) ?_
  refine lv_iadd hx hb dL_law_621 ?_
  refine xl_sld hx hb hX hbl hbA hS (i + 1) (nI_add i 1) (by omega) hL dL_law_622 ?_
  rw [← ea1]
  refine lv_aload_n hx hb dL_law_623 rfl (lv_at hl 0 rfl) ?_
  refine lv_iload_n hx hb dL_law_624 rfl (lv_at hl 3 rfl) ?_
  refine lv_iconst (v := 2) hx hb dL_law_625 (by decide) ?_
  refine lv_iadd hx hb dL_law_626 ?_
  refine xl_sld hx hb hX hbl hbA hS (i + 2) (nI_add i 2) (by omega) hL dL_law_627 ?_
  rw [← ea2]
  refine lv_aload_n hx hb dL_law_628 rfl (lv_at hl 0 rfl) ?_
  refine lv_iload_n hx hb dL_law_629 rfl (lv_at hl 3 rfl) ?_
  refine lv_iconst (v := 3) hx hb dL_law_630 (by decide) ?_
  refine lv_iadd hx hb dL_law_631 ?_
  refine xl_sld hx hb hX hbl hbA hS (i + 3) (nI_add i 3) (by omega) hL dL_law_632 ?_
  rw [← ea3]
  refine xc_i (va_runV (As := [.int a1, .int a2, .int a3]) (rest := [.int (fX6_find σ a1 a2 a3)]) ⟨hx, hb, hml, hown, hts⟩ (c_X7_find l dC dI cI cJ r τ a1 a2 a3 hR.IBm) (cwV 3 hts (gV ml_L_73 im_X7_find se_X7_find in_X7 co_X7_find) rfl rfl rfl (by decide +kernel) ⟨Nat.le_of_ble_eq_true rfl, Nat.le_of_ble_eq_true rfl⟩) (preV hK hPM (pos := 0) (ci := 7) rfl rfl) rfl rfl hl.1 rfl (lv_room (Nat.le_of_ble_eq_true rfl)) dL_law_633 ⟨Nat.le_refl _, Nat.le_refl _⟩) ?_
  have e1 := hR.find a1 a2 a3
  refine lv_icmp_eq (tgt := 869) hx hb dL_law_636 (by decide) (fun c_1 => ?_) (fun c_1 => absurd e1 c_1)
  exact K _ _ _ _ ⟨n, m', u, v, hR⟩ hPT hPM hS

set_option maxHeartbeats 4000000 in
set_option maxRecDepth 100000 in
theorem law_c13 {p : Program} {l : Launch} {e : Env} {s : State} {m : MethodId} {below : List Frame} {meth : Method} {c : Code} {dC : Nat → ClassId} {dI : Nat → Nat → Nat} {cI cJ : ClassId} {b L : Nat} {xs : Nat → Int32} (hL : L ≤ 3584) (C0 : lw_At p s m meth c b L xs) (hK : va_K (dC, dI) vwCl (tyC cI cJ) s) {q r : Nat → Nat} (F : LF s q r) {σ τ : St} {n m' u v : Nat} (hR : R σ τ n m' u v) {i : Nat} (hi : i + 7 ≤ L) {H : Heap} {locs : List Loc} (hPT : va_P (dC, dI) vwCl (wT cI cJ q σ) H) (hPM : va_P (dC, dI) vwCl (wM cI cJ r τ) H) (hS : va_S (fun a : Nat => s.heap.size ≤ a) s.heap H locs) {ls : Array Slot} (hl : lv_has ls 4 [(0, .ref b), (1, .ref (q 0)), (2, .ref (r 0)), (3, .int (nI i))]) (K : ∀ (σ τ : St) (H : Heap) (locs : List Loc), (∃ n m u v, R σ τ n m u v) → va_P (dC, dI) vwCl (wT cI cJ q σ) H → va_P (dC, dI) vwCl (wM cI cJ r τ) H → va_S (fun a : Nat => s.heap.size ≤ a) s.heap H locs → W p l e room_1 s m #[Value.ref b] below meth c H locs 600000 7302250 (lw_Z below #[Value.ref b] s) (F0 m 869 ls [])) : W p l e room_1 s m #[Value.ref b] below meth c H locs 600000 7302250 (lw_Z below #[Value.ref b] s) (F0 m 641 ls []) := by
  obtain ⟨hx, hb, hr, hml, hown, hts, hX, hbl, hlocks, hgv⟩ := C0
  have hown : s.vm.findClass RL = some m.cls := hown
  have hts : ∀ w ∈ tb, w.before #[Value.ref b] s = true := fun w hw => hts w (List.mem_filter.mp hw).1
  have hbA : ¬ (fun a : Nat => s.heap.size ≤ a) b := Nat.not_le.mpr hbl
  obtain ⟨a1, ea1⟩ : ∃ y, y = xs (i + 1) := ⟨_, rfl⟩
  obtain ⟨a2, ea2⟩ : ∃ y, y = xs (i + 2) := ⟨_, rfl⟩
  obtain ⟨a3, ea3⟩ : ∃ y, y = xs (i + 3) := ⟨_, rfl⟩
  obtain ⟨a4, ea4⟩ : ∃ y, y = xs (i + 4) := ⟨_, rfl⟩
  obtain ⟨a5, ea5⟩ : ∃ y, y = xs (i + 5) := ⟨_, rfl⟩
  obtain ⟨a6, ea6⟩ : ∃ y, y = xs (i + 6) := ⟨_, rfl⟩
  refine lv_aload_n hx hb dL_law_641 rfl (lv_at hl 1 rfl) ?_
  refine lv_aload_n hx hb dL_law_642 rfl (lv_at hl 0 rfl) ?_
  refine lv_iload_n hx hb dL_law_643 rfl (lv_at hl 3 rfl) ?_
  refine lv_iconst (v := 1) hx hb dL_law_644 (by decide) ?_
  refine lv_iadd hx hb dL_law_645 ?_
  refine xl_sld hx hb hX hbl hbA hS (i + 1) (nI_add i 1) (by omega) hL dL_law_646 ?_
  rw [← ea1]
  refine lv_aload_n hx hb dL_law_647 rfl (lv_at hl 0 rfl) ?_
  refine lv_iload_n hx hb dL_law_648 rfl (lv_at hl 3 rfl) ?_
  refine lv_iconst (v := 2) hx hb dL_law_649 (by decide) ?_
  refine lv_iadd hx hb dL_law_650 ?_
  refine xl_sld hx hb hX hbl hbA hS (i + 2) (nI_add i 2) (by omega) hL dL_law_651 ?_
  rw [← ea2]
  refine lv_aload_n hx hb dL_law_652 rfl (lv_at hl 0 rfl) ?_
  refine lv_iload_n hx hb dL_law_653 rfl (lv_at hl 3 rfl) ?_
  refine lv_iconst (v := 3) hx hb dL_law_654 (by decide) ?_
  refine lv_iadd hx hb dL_law_655 ?_
  refine xl_sld hx hb hX hbl hbA hS (i + 3) (nI_add i 3) (by omega) hL dL_law_656 ?_
  rw [← ea3]
  refine xc_l (va_runV (As := [.int a1, .int a2, .int a3]) (rest := []) ⟨hx, hb, hml, hown, hts⟩ (c_X6_then l dC dI cI cJ q σ a1 a2 a3 hR.IBc) (cwV 3 hts (gV ml_L_74 im_X6_then se_X6_then in_X6 co_X6_then) rfl rfl rfl (by decide +kernel) ⟨Nat.le_of_ble_eq_true rfl, Nat.le_of_ble_eq_true rfl⟩) (preV hK hPT (pos := 0) (ci := 6) rfl rfl) rfl rfl hl.1 rfl (lv_room (Nat.le_of_ble_eq_true rfl)) dL_law_657 ⟨Nat.le_refl _, Nat.le_refl _⟩) ?_
  refine lv_aload_n hx hb dL_law_660 rfl (lv_at hl 2 rfl) ?_
  refine lv_aload_n hx hb dL_law_661 rfl (lv_at hl 0 rfl) ?_
  refine lv_iload_n hx hb dL_law_662 rfl (lv_at hl 3 rfl) ?_
  refine lv_iconst (v := 1) hx hb dL_law_663 (by decide) ?_
  refine lv_iadd hx hb dL_law_664 ?_
  refine xl_sld hx hb hX hbl hbA hS (i + 1) (nI_add i 1) (by omega) hL dL_law_665 ?_
  rw [← ea1]
  refine lv_aload_n hx hb dL_law_666 rfl (lv_at hl 0 rfl) ?_
  refine lv_iload_n hx hb dL_law_667 rfl (lv_at hl 3 rfl) ?_
  refine lv_iconst (v := 2) hx hb dL_law_668 (by decide) ?_
  refine lv_iadd hx hb dL_law_669 ?_
  refine xl_sld hx hb hX hbl hbA hS (i + 2) (nI_add i 2) (by omega) hL dL_law_670 ?_
  rw [← ea2]
  refine lv_aload_n hx hb dL_law_671 rfl (lv_at hl 0 rfl) ?_
  refine lv_iload_n hx hb dL_law_672 rfl (lv_at hl 3 rfl) ?_
  refine lv_iconst (v := 3) hx hb dL_law_673 (by decide) ?_
  refine lv_iadd hx hb dL_law_674 ?_
  refine xl_sld hx hb hX hbl hbA hS (i + 3) (nI_add i 3) (by omega) hL dL_law_675 ?_
  rw [← ea3]
  refine xc_l (va_runV (As := [.int a1, .int a2, .int a3]) (rest := [.long (fX6_then σ a1 a2 a3)]) ⟨hx, hb, hml, hown, hts⟩ (c_X7_then l dC dI cI cJ r τ a1 a2 a3 hR.IBm) (cwV 3 hts (gV ml_L_78 im_X7_then se_X7_then in_X7 co_X7_then) rfl rfl rfl (by decide +kernel) ⟨Nat.le_of_ble_eq_true rfl, Nat.le_of_ble_eq_true rfl⟩) (preV hK hPM (pos := 0) (ci := 7) rfl rfl) rfl rfl hl.1 rfl (lv_room (Nat.le_of_ble_eq_true rfl)) dL_law_676 ⟨Nat.le_refl _, Nat.le_refl _⟩) ?_
  refine W.lcmp hx hb dL_law_679 ?_
  have e1 := hR.then a1 a2 a3
  refine lv_if_eq (tgt := 869) hx hb dL_law_680 (by decide) (fun c_1 => ?_) (fun c_1 => absurd (by rw [e1]; exact lg0 _) c_1)
  exact K _ _ _ _ ⟨n, m', u, v, hR⟩ hPT hPM hS

set_option maxHeartbeats 4000000 in
set_option maxRecDepth 100000 in
theorem law_c14 {p : Program} {l : Launch} {e : Env} {s : State} {m : MethodId} {below : List Frame} {meth : Method} {c : Code} {dC : Nat → ClassId} {dI : Nat → Nat → Nat} {cI cJ : ClassId} {b L : Nat} {xs : Nat → Int32} (hL : L ≤ 3584) (C0 : lw_At p s m meth c b L xs) (hK : va_K (dC, dI) vwCl (tyC cI cJ) s) {q r : Nat → Nat} (F : LF s q r) {σ τ : St} {n m' u v : Nat} (hR : R σ τ n m' u v) {i : Nat} (hi : i + 7 ≤ L) {H : Heap} {locs : List Loc} (hPT : va_P (dC, dI) vwCl (wT cI cJ q σ) H) (hPM : va_P (dC, dI) vwCl (wM cI cJ r τ) H) (hS : va_S (fun a : Nat => s.heap.size ≤ a) s.heap H locs) {ls : Array Slot} (hl : lv_has ls 4 [(0, .ref b), (1, .ref (q 0)), (2, .ref (r 0)), (3, .int (nI i))]) (K : ∀ (σ τ : St) (H : Heap) (locs : List Loc), (∃ n m u v, R σ τ n m u v) → va_P (dC, dI) vwCl (wT cI cJ q σ) H → va_P (dC, dI) vwCl (wM cI cJ r τ) H → va_S (fun a : Nat => s.heap.size ≤ a) s.heap H locs → W p l e room_1 s m #[Value.ref b] below meth c H locs 600000 7302250 (lw_Z below #[Value.ref b] s) (F0 m 869 ls [])) : W p l e room_1 s m #[Value.ref b] below meth c H locs 600000 7302250 (lw_Z below #[Value.ref b] s) (F0 m 685 ls []) := by
  obtain ⟨hx, hb, hr, hml, hown, hts, hX, hbl, hlocks, hgv⟩ := C0
  have hown : s.vm.findClass RL = some m.cls := hown
  have hts : ∀ w ∈ tb, w.before #[Value.ref b] s = true := fun w hw => hts w (List.mem_filter.mp hw).1
  have hbA : ¬ (fun a : Nat => s.heap.size ≤ a) b := Nat.not_le.mpr hbl
  obtain ⟨a1, ea1⟩ : ∃ y, y = xs (i + 1) := ⟨_, rfl⟩
  obtain ⟨a2, ea2⟩ : ∃ y, y = xs (i + 2) := ⟨_, rfl⟩
  obtain ⟨a3, ea3⟩ : ∃ y, y = xs (i + 3) := ⟨_, rfl⟩
  obtain ⟨a4, ea4⟩ : ∃ y, y = xs (i + 4) := ⟨_, rfl⟩
  obtain ⟨a5, ea5⟩ : ∃ y, y = xs (i + 5) := ⟨_, rfl⟩
  obtain ⟨a6, ea6⟩ : ∃ y, y = xs (i + 6) := ⟨_, rfl⟩
  refine lv_aload_n hx hb dL_law_685 rfl (lv_at hl 1 rfl) ?_
  refine lv_aload_n hx hb dL_law_686 rfl (lv_at hl 0 rfl) ?_
  refine lv_iload_n hx hb dL_law_687 rfl (lv_at hl 3 rfl) ?_
  refine lv_iconst (v := 1) hx hb dL_law_688 (by decide) ?_
  refine lv_iadd hx hb dL_law_689 ?_
  refine xl_sld hx hb hX hbl hbA hS (i + 1) (nI_add i 1) (by omega) hL dL_law_690 ?_
  rw [← ea1]
  refine lv_aload_n hx hb dL_law_691 rfl (lv_at hl 0 rfl) ?_
  refine lv_iload_n hx hb dL_law_692 rfl (lv_at hl 3 rfl) ?_
  refine lv_iconst (v := 2) hx hb dL_law_693 (by decide) ?_
  refine lv_iadd hx hb dL_law_694 ?_
  refine xl_sld hx hb hX hbl hbA hS (i + 2) (nI_add i 2) (by omega) hL dL_law_695 ?_
  rw [← ea2]
  refine lv_aload_n hx hb dL_law_696 rfl (lv_at hl 0 rfl) ?_
  refine lv_iload_n hx hb dL_law_697 rfl (lv_at hl 3 rfl) ?_
  refine lv_iconst (v := 3) hx hb dL_law_698 (by decide) ?_
  refine lv_iadd hx hb dL_law_699 ?_
  refine xl_sld hx hb hX hbl hbA hS (i + 3) (nI_add i 3) (by omega) hL dL_law_700 ?_
  rw [← ea3]
  refine lv_aload_n hx hb dL_law_701 rfl (lv_at hl 0 rfl) ?_
  refine lv_iload_n hx hb dL_law_702 rfl (lv_at hl 3 rfl) ?_
  refine lv_iconst (v := 4) hx hb dL_law_703 (by decide) ?_
  refine lv_iadd hx hb dL_law_704 ?_
  refine xl_sld hx hb hX hbl hbA hS (i + 4) (nI_add i 4) (by omega) hL dL_law_705 ?_
  rw [← ea4]
  refine xw_c (va_runV (As := [.int a1, .int a2, .int a3, .int a4]) (rest := []) ⟨hx, hb, hml, hown, hts⟩ (c_X6_by l dC dI cI cJ q σ a1 a2 a3 a4 F.1 hR.IBc) (cwV 4 hts (gV ml_L_79 im_X6_by se_X6_by in_X6 co_X6_by) rfl rfl rfl (by decide +kernel) ⟨Nat.le_of_ble_eq_true rfl, Nat.le_of_ble_eq_true rfl⟩) (preV hK hPT (pos := 0) (ci := 6) rfl rfl) rfl rfl hl.1 rfl (lv_room (Nat.le_of_ble_eq_true rfl)) dL_law_706 ⟨Nat.le_refl _, Nat.le_refl _⟩) hS F.inT (fun H locs hPT hz hk hS => ?_)
  have hPM := keepW hPM rfl F.2.2.1 hk
  refine W.eq (g2 := F0 m 709 ls [.long ((fX6_by σ a1 a2 a3 a4).1)]) rfl ?_
  refine lv_aload_n hx hb dL_law_709 rfl (lv_at hl 2 rfl) ?_
  refine lv_aload_n hx hb dL_law_710 rfl (lv_at hl 0 rfl) ?_
  refine lv_iload_n hx hb dL_law_711 rfl (lv_at hl 3 rfl) ?_
  refine lv_iconst (v := 1) hx hb dL_law_712 (by decide) ?_
  refine lv_iadd hx hb dL_law_713 ?_
  refine xl_sld hx hb hX hbl hbA hS (i + 1) (nI_add i 1) (by omega) hL dL_law_714 ?_
  rw [← ea1]
  refine lv_aload_n hx hb dL_law_715 rfl (lv_at hl 0 rfl) ?_
  refine lv_iload_n hx hb dL_law_716 rfl (lv_at hl 3 rfl) ?_
  refine lv_iconst (v := 2) hx hb dL_law_717 (by decide) ?_
  refine lv_iadd hx hb dL_law_718 ?_
  refine xl_sld hx hb hX hbl hbA hS (i + 2) (nI_add i 2) (by omega) hL dL_law_719 ?_
  rw [← ea2]
  refine lv_aload_n hx hb dL_law_720 rfl (lv_at hl 0 rfl) ?_
  refine lv_iload_n hx hb dL_law_721 rfl (lv_at hl 3 rfl) ?_
  refine lv_iconst (v := 3) hx hb dL_law_722 (by decide) ?_
  refine lv_iadd hx hb dL_law_723 ?_
  refine xl_sld hx hb hX hbl hbA hS (i + 3) (nI_add i 3) (by omega) hL dL_law_724 ?_
  rw [← ea3]
  refine lv_aload_n hx hb dL_law_725 rfl (lv_at hl 0 rfl) ?_
  refine lv_iload_n hx hb dL_law_726 rfl (lv_at hl 3 rfl) ?_
  refine lv_iconst (v := 4) hx hb dL_law_727 (by decide) ?_
  refine lv_iadd hx hb dL_law_728 ?_
  refine xl_sld hx hb hX hbl hbA hS (i + 4) (nI_add i 4) (by omega) hL dL_law_729 ?_
  rw [← ea4]
  refine xc_l (va_runV (As := [.int a1, .int a2, .int a3, .int a4]) (rest := [.long ((fX6_by σ a1 a2 a3 a4).1)]) ⟨hx, hb, hml, hown, hts⟩ (c_X7_by l dC dI cI cJ r τ a1 a2 a3 a4 hR.IBm hR.HMm) (cwV 4 hts (gV ml_L_83 im_X7_by se_X7_by in_X7 co_X7_by) rfl rfl rfl (by decide +kernel) ⟨Nat.le_of_ble_eq_true rfl, Nat.le_of_ble_eq_true rfl⟩) (preV hK hPM (pos := 0) (ci := 7) rfl rfl) rfl rfl hl.1 rfl (lv_room (Nat.le_of_ble_eq_true rfl)) dL_law_730 ⟨Nat.le_refl _, Nat.le_refl _⟩) ?_
  refine W.lcmp hx hb dL_law_733 ?_
  obtain ⟨e1, hR2⟩ := hR.by a1 a2 a3 a4
  refine lv_if_eq (tgt := 869) hx hb dL_law_734 (by decide) (fun c_1 => ?_) (fun c_1 => absurd (by rw [e1]; exact lg0 _) c_1)
  exact K _ _ _ _ ⟨n, m', u, v, hR2⟩ hPT hPM hS

set_option maxHeartbeats 4000000 in
set_option maxRecDepth 100000 in
theorem law_c15 {p : Program} {l : Launch} {e : Env} {s : State} {m : MethodId} {below : List Frame} {meth : Method} {c : Code} {dC : Nat → ClassId} {dI : Nat → Nat → Nat} {cI cJ : ClassId} {b L : Nat} {xs : Nat → Int32} (hL : L ≤ 3584) (C0 : lw_At p s m meth c b L xs) (hK : va_K (dC, dI) vwCl (tyC cI cJ) s) {q r : Nat → Nat} (F : LF s q r) {σ τ : St} {n m' u v : Nat} (hR : R σ τ n m' u v) {i : Nat} (hi : i + 7 ≤ L) {H : Heap} {locs : List Loc} (hPT : va_P (dC, dI) vwCl (wT cI cJ q σ) H) (hPM : va_P (dC, dI) vwCl (wM cI cJ r τ) H) (hS : va_S (fun a : Nat => s.heap.size ≤ a) s.heap H locs) {ls : Array Slot} (hl : lv_has ls 4 [(0, .ref b), (1, .ref (q 0)), (2, .ref (r 0)), (3, .int (nI i))]) (K : ∀ (σ τ : St) (H : Heap) (locs : List Loc), (∃ n m u v, R σ τ n m u v) → va_P (dC, dI) vwCl (wT cI cJ q σ) H → va_P (dC, dI) vwCl (wM cI cJ r τ) H → va_S (fun a : Nat => s.heap.size ≤ a) s.heap H locs → W p l e room_1 s m #[Value.ref b] below meth c H locs 600000 7302250 (lw_Z below #[Value.ref b] s) (F0 m 869 ls [])) : W p l e room_1 s m #[Value.ref b] below meth c H locs 600000 7302250 (lw_Z below #[Value.ref b] s) (F0 m 739 ls []) := by
  obtain ⟨hx, hb, hr, hml, hown, hts, hX, hbl, hlocks, hgv⟩ := C0
  have hown : s.vm.findClass RL = some m.cls := hown
  have hts : ∀ w ∈ tb, w.before #[Value.ref b] s = true := fun w hw => hts w (List.mem_filter.mp hw).1
  have hbA : ¬ (fun a : Nat => s.heap.size ≤ a) b := Nat.not_le.mpr hbl
  obtain ⟨a1, ea1⟩ : ∃ y, y = xs (i + 1) := ⟨_, rfl⟩
  obtain ⟨a2, ea2⟩ : ∃ y, y = xs (i + 2) := ⟨_, rfl⟩
  obtain ⟨a3, ea3⟩ : ∃ y, y = xs (i + 3) := ⟨_, rfl⟩
  obtain ⟨a4, ea4⟩ : ∃ y, y = xs (i + 4) := ⟨_, rfl⟩
  obtain ⟨a5, ea5⟩ : ∃ y, y = xs (i + 5) := ⟨_, rfl⟩
  obtain ⟨a6, ea6⟩ : ∃ y, y = xs (i + 6) := ⟨_, rfl⟩
  refine lv_aload_n hx hb dL_law_739 rfl (lv_at hl 1 rfl) ?_
  refine lv_aload_n hx hb dL_law_740 rfl (lv_at hl 0 rfl) ?_
  refine lv_iload_n hx hb dL_law_741 rfl (lv_at hl 3 rfl) ?_
  refine lv_iconst (v := 1) hx hb dL_law_742 (by decide) ?_
  refine lv_iadd hx hb dL_law_743 ?_
  refine xl_sld hx hb hX hbl hbA hS (i + 1) (nI_add i 1) (by omega) hL dL_law_744 ?_
  rw [← ea1]
  refine lv_aload_n hx hb dL_law_745 rfl (lv_at hl 0 rfl) ?_
  refine lv_iload_n hx hb dL_law_746 rfl (lv_at hl 3 rfl) ?_
  refine lv_iconst (v := 2) hx hb dL_law_747 (by decide) ?_
  refine lv_iadd hx hb dL_law_748 ?_
  refine xl_sld hx hb hX hbl hbA hS (i + 2) (nI_add i 2) (by omega) hL dL_law_749 ?_
  rw [← ea2]
  refine lv_aload_n hx hb dL_law_750 rfl (lv_at hl 0 rfl) ?_
  refine lv_iload_n hx hb dL_law_751 rfl (lv_at hl 3 rfl) ?_
  refine lv_iconst (v := 3) hx hb dL_law_752 (by decide) ?_
  refine lv_iadd hx hb dL_law_753 ?_
  refine xl_sld hx hb hX hbl hbA hS (i + 3) (nI_add i 3) (by omega) hL dL_law_754 ?_
  rw [← ea3]
  refine xw_c (va_runV (As := [.int a1, .int a2, .int a3]) (rest := []) ⟨hx, hb, hml, hown, hts⟩ (c_X6_sum l dC dI cI cJ q σ a1 a2 a3 F.1 hR.IBc) (cwV 3 hts (gV ml_L_84 im_X6_sum se_X6_sum in_X6 co_X6_sum) rfl rfl rfl (by decide +kernel) ⟨Nat.le_of_ble_eq_true rfl, Nat.le_of_ble_eq_true rfl⟩) (preV hK hPT (pos := 0) (ci := 6) rfl rfl) rfl rfl hl.1 rfl (lv_room (Nat.le_of_ble_eq_true rfl)) dL_law_755 ⟨Nat.le_refl _, Nat.le_refl _⟩) hS F.inT (fun H locs hPT hz hk hS => ?_)
  have hPM := keepW hPM rfl F.2.2.1 hk
  refine W.eq (g2 := F0 m 758 ls [.long ((fX6_sum σ a1 a2 a3).1)]) rfl ?_
  refine lv_aload_n hx hb dL_law_758 rfl (lv_at hl 2 rfl) ?_
  refine lv_aload_n hx hb dL_law_759 rfl (lv_at hl 0 rfl) ?_
  refine lv_iload_n hx hb dL_law_760 rfl (lv_at hl 3 rfl) ?_
  refine lv_iconst (v := 1) hx hb dL_law_761 (by decide) ?_
  refine lv_iadd hx hb dL_law_762 ?_
  refine xl_sld hx hb hX hbl hbA hS (i + 1) (nI_add i 1) (by omega) hL dL_law_763 ?_
  rw [← ea1]
  refine lv_aload_n hx hb dL_law_764 rfl (lv_at hl 0 rfl) ?_
  refine lv_iload_n hx hb dL_law_765 rfl (lv_at hl 3 rfl) ?_
  refine lv_iconst (v := 2) hx hb dL_law_766 (by decide) ?_
  refine lv_iadd hx hb dL_law_767 ?_
  refine xl_sld hx hb hX hbl hbA hS (i + 2) (nI_add i 2) (by omega) hL dL_law_768 ?_
  rw [← ea2]
  refine lv_aload_n hx hb dL_law_769 rfl (lv_at hl 0 rfl) ?_
  refine lv_iload_n hx hb dL_law_770 rfl (lv_at hl 3 rfl) ?_
  refine lv_iconst (v := 3) hx hb dL_law_771 (by decide) ?_
  refine lv_iadd hx hb dL_law_772 ?_
  refine xl_sld hx hb hX hbl hbA hS (i + 3) (nI_add i 3) (by omega) hL dL_law_773 ?_
  rw [← ea3]
  refine xc_l (va_runV (As := [.int a1, .int a2, .int a3]) (rest := [.long ((fX6_sum σ a1 a2 a3).1)]) ⟨hx, hb, hml, hown, hts⟩ (c_X7_sum l dC dI cI cJ r τ a1 a2 a3 hR.IBm hR.HMm) (cwV 3 hts (gV ml_L_87 im_X7_sum se_X7_sum in_X7 co_X7_sum) rfl rfl rfl (by decide +kernel) ⟨Nat.le_of_ble_eq_true rfl, Nat.le_of_ble_eq_true rfl⟩) (preV hK hPM (pos := 0) (ci := 7) rfl rfl) rfl rfl hl.1 rfl (lv_room (Nat.le_of_ble_eq_true rfl)) dL_law_774 ⟨Nat.le_refl _, Nat.le_refl _⟩) ?_
  refine W.lcmp hx hb dL_law_777 ?_
  obtain ⟨e1, hR2⟩ := hR.sum a1 a2 a3
  refine lv_if_eq (tgt := 869) hx hb dL_law_778 (by decide) (fun c_1 => ?_) (fun c_1 => absurd (by rw [e1]; exact lg0 _) c_1)
  exact K _ _ _ _ ⟨n, m', u, v, hR2⟩ hPT hPM hS

set_option maxHeartbeats 4000000 in
set_option maxRecDepth 100000 in
theorem law_c16 {p : Program} {l : Launch} {e : Env} {s : State} {m : MethodId} {below : List Frame} {meth : Method} {c : Code} {dC : Nat → ClassId} {dI : Nat → Nat → Nat} {cI cJ : ClassId} {b L : Nat} {xs : Nat → Int32} (hL : L ≤ 3584) (C0 : lw_At p s m meth c b L xs) (hK : va_K (dC, dI) vwCl (tyC cI cJ) s) {q r : Nat → Nat} (F : LF s q r) {σ τ : St} {n m' u v : Nat} (hR : R σ τ n m' u v) {i : Nat} (hi : i + 7 ≤ L) {H : Heap} {locs : List Loc} (hPT : va_P (dC, dI) vwCl (wT cI cJ q σ) H) (hPM : va_P (dC, dI) vwCl (wM cI cJ r τ) H) (hS : va_S (fun a : Nat => s.heap.size ≤ a) s.heap H locs) {ls : Array Slot} (hl : lv_has ls 4 [(0, .ref b), (1, .ref (q 0)), (2, .ref (r 0)), (3, .int (nI i))]) (K : ∀ (σ τ : St) (H : Heap) (locs : List Loc), (∃ n m u v, R σ τ n m u v) → va_P (dC, dI) vwCl (wT cI cJ q σ) H → va_P (dC, dI) vwCl (wM cI cJ r τ) H → va_S (fun a : Nat => s.heap.size ≤ a) s.heap H locs → W p l e room_1 s m #[Value.ref b] below meth c H locs 600000 7302250 (lw_Z below #[Value.ref b] s) (F0 m 869 ls [])) : W p l e room_1 s m #[Value.ref b] below meth c H locs 600000 7302250 (lw_Z below #[Value.ref b] s) (F0 m 783 ls []) := by
  obtain ⟨hx, hb, hr, hml, hown, hts, hX, hbl, hlocks, hgv⟩ := C0
  have hown : s.vm.findClass RL = some m.cls := hown
  have hts : ∀ w ∈ tb, w.before #[Value.ref b] s = true := fun w hw => hts w (List.mem_filter.mp hw).1
  have hbA : ¬ (fun a : Nat => s.heap.size ≤ a) b := Nat.not_le.mpr hbl
  obtain ⟨a1, ea1⟩ : ∃ y, y = xs (i + 1) := ⟨_, rfl⟩
  obtain ⟨a2, ea2⟩ : ∃ y, y = xs (i + 2) := ⟨_, rfl⟩
  obtain ⟨a3, ea3⟩ : ∃ y, y = xs (i + 3) := ⟨_, rfl⟩
  obtain ⟨a4, ea4⟩ : ∃ y, y = xs (i + 4) := ⟨_, rfl⟩
  obtain ⟨a5, ea5⟩ : ∃ y, y = xs (i + 5) := ⟨_, rfl⟩
  obtain ⟨a6, ea6⟩ : ∃ y, y = xs (i + 6) := ⟨_, rfl⟩
  refine lv_aload_n hx hb dL_law_783 rfl (lv_at hl 1 rfl) ?_
  refine lv_aload_n hx hb dL_law_784 rfl (lv_at hl 0 rfl) ?_
  refine lv_iload_n hx hb dL_law_785 rfl (lv_at hl 3 rfl) ?_
  refine lv_iconst (v := 1) hx hb dL_law_786 (by decide) ?_
  refine lv_iadd hx hb dL_law_787 ?_
  refine xl_sld hx hb hX hbl hbA hS (i + 1) (nI_add i 1) (by omega) hL dL_law_788 ?_
  rw [← ea1]
  refine lv_aload_n hx hb dL_law_789 rfl (lv_at hl 0 rfl) ?_
  refine lv_iload_n hx hb dL_law_790 rfl (lv_at hl 3 rfl) ?_
  refine lv_iconst (v := 2) hx hb dL_law_791 (by decide) ?_
  refine lv_iadd hx hb dL_law_792 ?_
  refine xl_sld hx hb hX hbl hbA hS (i + 2) (nI_add i 2) (by omega) hL dL_law_793 ?_
  rw [← ea2]
  refine lv_aload_n hx hb dL_law_794 rfl (lv_at hl 0 rfl) ?_
  refine lv_iload_n hx hb dL_law_795 rfl (lv_at hl 3 rfl) ?_
  refine lv_iconst (v := 3) hx hb dL_law_796 (by decide) ?_
  refine lv_iadd hx hb dL_law_797 ?_
  refine xl_sld hx hb hX hbl hbA hS (i + 3) (nI_add i 3) (by omega) hL dL_law_798 ?_
  rw [← ea3]
  refine lv_aload_n hx hb dL_law_799 rfl (lv_at hl 0 rfl) ?_
  refine lv_iload_n hx hb dL_law_800 rfl (lv_at hl 3 rfl) ?_
  refine lv_iconst (v := 4) hx hb dL_law_801 (by decide) ?_
  refine lv_iadd hx hb dL_law_802 ?_
  refine xl_sld hx hb hX hbl hbA hS (i + 4) (nI_add i 4) (by omega) hL dL_law_803 ?_
  rw [← ea4]
  refine lv_aload_n hx hb dL_law_804 rfl (lv_at hl 0 rfl) ?_
  refine lv_iload_n hx hb dL_law_805 rfl (lv_at hl 3 rfl) ?_
  refine lv_iconst (v := 5) hx hb dL_law_806 (by decide) ?_
  refine lv_iadd hx hb dL_law_807 ?_
  refine xl_sld hx hb hX hbl hbA hS (i + 5) (nI_add i 5) (by omega) hL dL_law_808 ?_
  rw [← ea5]
  refine xc_i (va_runV (As := [.int a1, .int a2, .int a3, .int a4, .int a5]) (rest := []) ⟨hx, hb, hml, hown, hts⟩ (c_X6_compare l dC dI cI cJ q σ a1 a2 a3 a4 a5 hR.IBc) (cwV 5 hts (gV ml_L_88 im_X6_compare se_X6_compare in_X6 co_X6_compare) rfl rfl rfl (by decide +kernel) ⟨Nat.le_of_ble_eq_true rfl, Nat.le_of_ble_eq_true rfl⟩) (preV hK hPT (pos := 0) (ci := 6) rfl rfl) rfl rfl hl.1 rfl (lv_room (Nat.le_of_ble_eq_true rfl)) dL_law_809 ⟨Nat.le_refl _, Nat.le_refl _⟩) ?_
  refine lv_aload_n hx hb dL_law_812 rfl (lv_at hl 2 rfl) ?_
  refine lv_aload_n hx hb dL_law_813 rfl (lv_at hl 0 rfl) ?_
  refine lv_iload_n hx hb dL_law_814 rfl (lv_at hl 3 rfl) ?_
  refine lv_iconst (v := 1) hx hb dL_law_815 (by decide) ?_
  refine lv_iadd hx hb dL_law_816 ?_
  refine xl_sld hx hb hX hbl hbA hS (i + 1) (nI_add i 1) (by omega) hL dL_law_817 ?_
  rw [← ea1]
  refine lv_aload_n hx hb dL_law_818 rfl (lv_at hl 0 rfl) ?_
  refine lv_iload_n hx hb dL_law_819 rfl (lv_at hl 3 rfl) ?_
  refine lv_iconst (v := 2) hx hb dL_law_820 (by decide) ?_
  refine lv_iadd hx hb dL_law_821 ?_
  refine xl_sld hx hb hX hbl hbA hS (i + 2) (nI_add i 2) (by omega) hL dL_law_822 ?_
  rw [← ea2]
  refine lv_aload_n hx hb dL_law_823 rfl (lv_at hl 0 rfl) ?_
  refine lv_iload_n hx hb dL_law_824 rfl (lv_at hl 3 rfl) ?_
  refine lv_iconst (v := 3) hx hb dL_law_825 (by decide) ?_
  refine lv_iadd hx hb dL_law_826 ?_
  refine xl_sld hx hb hX hbl hbA hS (i + 3) (nI_add i 3) (by omega) hL dL_law_827 ?_
  rw [← ea3]
  refine lv_aload_n hx hb dL_law_828 rfl (lv_at hl 0 rfl) ?_
  refine lv_iload_n hx hb dL_law_829 rfl (lv_at hl 3 rfl) ?_
  refine lv_iconst (v := 4) hx hb dL_law_830 (by decide) ?_
  refine lv_iadd hx hb dL_law_831 ?_
  refine xl_sld hx hb hX hbl hbA hS (i + 4) (nI_add i 4) (by omega) hL dL_law_832 ?_
  rw [← ea4]
  refine lv_aload_n hx hb dL_law_833 rfl (lv_at hl 0 rfl) ?_
  refine lv_iload_n hx hb dL_law_834 rfl (lv_at hl 3 rfl) ?_
  refine lv_iconst (v := 5) hx hb dL_law_835 (by decide) ?_
  refine lv_iadd hx hb dL_law_836 ?_
  refine xl_sld hx hb hX hbl hbA hS (i + 5) (nI_add i 5) (by omega) hL dL_law_837 ?_
  rw [← ea5]
  refine xc_i (va_runV (As := [.int a1, .int a2, .int a3, .int a4, .int a5]) (rest := [.int (fX6_compare σ a1 a2 a3 a4 a5)]) ⟨hx, hb, hml, hown, hts⟩ (c_X7_compare l dC dI cI cJ r τ a1 a2 a3 a4 a5 hR.IBm) (cwV 5 hts (gV ml_L_92 im_X7_compare se_X7_compare in_X7 co_X7_compare) rfl rfl rfl (by decide +kernel) ⟨Nat.le_of_ble_eq_true rfl, Nat.le_of_ble_eq_true rfl⟩) (preV hK hPM (pos := 0) (ci := 7) rfl rfl) rfl rfl hl.1 rfl (lv_room (Nat.le_of_ble_eq_true rfl)) dL_law_838 ⟨Nat.le_refl _, Nat.le_refl _⟩) ?_
  have e1 := hR.compare a1 a2 a3 a4 a5
  refine lv_icmp_eq (tgt := 869) hx hb dL_law_841 (by decide) (fun c_1 => ?_) (fun c_1 => absurd e1 c_1)
  exact K _ _ _ _ ⟨n, m', u, v, hR⟩ hPT hPM hS

set_option maxHeartbeats 4000000 in
set_option maxRecDepth 100000 in
theorem law_c17 {p : Program} {l : Launch} {e : Env} {s : State} {m : MethodId} {below : List Frame} {meth : Method} {c : Code} {dC : Nat → ClassId} {dI : Nat → Nat → Nat} {cI cJ : ClassId} {b L : Nat} {xs : Nat → Int32} (hL : L ≤ 3584) (C0 : lw_At p s m meth c b L xs) (hK : va_K (dC, dI) vwCl (tyC cI cJ) s) {q r : Nat → Nat} (F : LF s q r) {σ τ : St} {n m' u v : Nat} (hR : R σ τ n m' u v) {i : Nat} (hi : i + 7 ≤ L) {H : Heap} {locs : List Loc} (hPT : va_P (dC, dI) vwCl (wT cI cJ q σ) H) (hPM : va_P (dC, dI) vwCl (wM cI cJ r τ) H) (hS : va_S (fun a : Nat => s.heap.size ≤ a) s.heap H locs) {ls : Array Slot} (hl : lv_has ls 4 [(0, .ref b), (1, .ref (q 0)), (2, .ref (r 0)), (3, .int (nI i))]) (K : ∀ (σ τ : St) (H : Heap) (locs : List Loc), (∃ n m u v, R σ τ n m u v) → va_P (dC, dI) vwCl (wT cI cJ q σ) H → va_P (dC, dI) vwCl (wM cI cJ r τ) H → va_S (fun a : Nat => s.heap.size ≤ a) s.heap H locs → W p l e room_1 s m #[Value.ref b] below meth c H locs 600000 7302250 (lw_Z below #[Value.ref b] s) (F0 m 869 ls [])) : W p l e room_1 s m #[Value.ref b] below meth c H locs 600000 7302250 (lw_Z below #[Value.ref b] s) (F0 m 846 ls []) := by
  obtain ⟨hx, hb, hr, hml, hown, hts, hX, hbl, hlocks, hgv⟩ := C0
  have hown : s.vm.findClass RL = some m.cls := hown
  have hts : ∀ w ∈ tb, w.before #[Value.ref b] s = true := fun w hw => hts w (List.mem_filter.mp hw).1
  have hbA : ¬ (fun a : Nat => s.heap.size ≤ a) b := Nat.not_le.mpr hbl
  obtain ⟨a1, ea1⟩ : ∃ y, y = xs (i + 1) := ⟨_, rfl⟩
  obtain ⟨a2, ea2⟩ : ∃ y, y = xs (i + 2) := ⟨_, rfl⟩
  obtain ⟨a3, ea3⟩ : ∃ y, y = xs (i + 3) := ⟨_, rfl⟩
  obtain ⟨a4, ea4⟩ : ∃ y, y = xs (i + 4) := ⟨_, rfl⟩
  obtain ⟨a5, ea5⟩ : ∃ y, y = xs (i + 5) := ⟨_, rfl⟩
  obtain ⟨a6, ea6⟩ : ∃ y, y = xs (i + 6) := ⟨_, rfl⟩
  refine lv_aload_n hx hb dL_law_846 rfl (lv_at hl 1 rfl) ?_
  refine lv_aload_n hx hb dL_law_847 rfl (lv_at hl 0 rfl) ?_
  refine lv_iload_n hx hb dL_law_848 rfl (lv_at hl 3 rfl) ?_
  refine lv_iconst (v := 1) hx hb dL_law_849 (by decide) ?_
  refine lv_iadd hx hb dL_law_850 ?_
  refine xl_sld hx hb hX hbl hbA hS (i + 1) (nI_add i 1) (by omega) hL dL_law_851 ?_
  rw [← ea1]
  refine xc_i (va_runV (As := [.int a1]) (rest := []) ⟨hx, hb, hml, hown, hts⟩ (c_X6_count l dC dI cI cJ q σ a1 ) (cwV 1 hts (gV ml_L_93 im_X6_count se_X6_count in_X6 co_X6_count) rfl rfl rfl (by decide +kernel) ⟨Nat.le_of_ble_eq_true rfl, Nat.le_of_ble_eq_true rfl⟩) (preV hK hPT (pos := 0) (ci := 6) rfl rfl) rfl rfl hl.1 rfl (lv_room (Nat.le_of_ble_eq_true rfl)) dL_law_852 ⟨Nat.le_refl _, Nat.le_refl _⟩) ?_
  refine lv_aload_n hx hb dL_law_855 rfl (lv_at hl 2 rfl) ?_
  refine lv_aload_n hx hb dL_law_856 rfl (lv_at hl 0 rfl) ?_
  refine lv_iload_n hx hb dL_law_857 rfl (lv_at hl 3 rfl) ?_
  refine lv_iconst (v := 1) hx hb dL_law_858 (by decide) ?_
  refine lv_iadd hx hb dL_law_859 ?_
  refine xl_sld hx hb hX hbl hbA hS (i + 1) (nI_add i 1) (by omega) hL dL_law_860 ?_
  rw [← ea1]
  refine xc_i (va_runV (As := [.int a1]) (rest := [.int (fX6_count σ a1)]) ⟨hx, hb, hml, hown, hts⟩ (c_X7_count l dC dI cI cJ r τ a1 ) (cwV 1 hts (gV ml_L_96 im_X7_count se_X7_count in_X7 co_X7_count) rfl rfl rfl (by decide +kernel) ⟨Nat.le_of_ble_eq_true rfl, Nat.le_of_ble_eq_true rfl⟩) (preV hK hPM (pos := 0) (ci := 7) rfl rfl) rfl rfl hl.1 rfl (lv_room (Nat.le_of_ble_eq_true rfl)) dL_law_861 ⟨Nat.le_refl _, Nat.le_refl _⟩) ?_
  have e1 := hR.count a1
  refine lv_icmp_eq (tgt := 869) hx hb dL_law_864 (by decide) (fun c_1 => ?_) (fun c_1 => absurd e1 c_1)
  exact K _ _ _ _ ⟨n, m', u, v, hR⟩ hPT hPM hS
