/-! ONE WORLD FOR THE CLASS (wT, 30 cells) AND ONE FOR THE REFERENCE (wM, 22 cells), over one kind of pure state St: arrays of ints by number, ints by number, the row of longs, one long. -/
abbrev St : Type := (Nat → Nat → Int32) × (Nat → Int32) × (Nat → Int64) × Int64
def sI (σ : St) (k j : Nat) (v : Int32) : St := (va_up σ.1 k (upd (σ.1 k) j v), σ.2)
def sV (σ : St) (k : Nat) (v : Int32) : St := (σ.1, va_up σ.2.1 k v, σ.2.2)
def sL (σ : St) (j : Nat) (v : Int64) : St := (σ.1, σ.2.1, vp_updL σ.2.2.1 j v, σ.2.2.2)
def sZ (σ : St) (v : Int64) : St := (σ.1, σ.2.1, σ.2.2.1, v)
abbrev tyC (cI cJ : ClassId) : List (ClassId × FieldType) := [(cI, .int), (cJ, .long)]
abbrev wT (cI cJ : ClassId) (q : Nat → Nat) (σ : St) : va_W := [
  (q 0, .inr (6, [.ref (q 1), .ref (q 3), .ref (q 13), .ref (q 21), .ref (q 28), .int (σ.2.1 0)])),
  (q 1, .inr (2, [.ref (q 2), .int (σ.2.1 4), .int (σ.2.1 5)])),
  (q 2, .inl (cI, 40, .inl (σ.1 20))),
  (q 3, .inr (5, [.ref (q 4), .ref (q 5), .ref (q 6), .ref (q 7), .ref (q 8), .ref (q 9), .ref (q 10), .ref (q 11), .ref (q 12), .int (σ.2.1 1)])),
  (q 4, .inl (cI, 40, .inl (σ.1 0))),
  (q 5, .inl (cI, 40, .inl (σ.1 1))),
  (q 6, .inl (cI, 40, .inl (σ.1 2))),
  (q 7, .inl (cI, 40, .inl (σ.1 3))),
  (q 8, .inl (cI, 40, .inl (σ.1 4))),
  (q 9, .inl (cI, 40, .inl (σ.1 5))),
  (q 10, .inl (cI, 40, .inl (σ.1 6))),
  (q 11, .inl (cI, 40, .inl (σ.1 7))),
  (q 12, .inl (cI, 40, .inl (σ.1 8))),
  (q 13, .inr (4, [.ref (q 14), .ref (q 15), .ref (q 16), .ref (q 17), .ref (q 18)])),
  (q 14, .inr (3, [.ref (q 1), .ref (q 19), .ref (q 20), .int 300, .int (σ.2.1 3)])),
  (q 15, .inl (cI, 300, .inl (σ.1 9))),
  (q 16, .inl (cI, 300, .inl (σ.1 10))),
  (q 17, .inl (cI, 300, .inl (σ.1 11))),
  (q 18, .inl (cI, 300, .inl (σ.1 12))),
  (q 19, .inl (cI, 300, .inl (σ.1 13))),
  (q 20, .inl (cI, 300, .inl (σ.1 14))),
  (q 21, .inr (1, [.ref (q 22), .ref (q 23), .ref (q 24), .ref (q 25)])),
  (q 22, .inr (3, [.ref (q 1), .ref (q 26), .ref (q 27), .int 200, .int (σ.2.1 2)])),
  (q 23, .inl (cI, 200, .inl (σ.1 15))),
  (q 24, .inl (cI, 200, .inl (σ.1 16))),
  (q 25, .inl (cI, 200, .inl (σ.1 17))),
  (q 26, .inl (cI, 200, .inl (σ.1 18))),
  (q 27, .inl (cI, 200, .inl (σ.1 19))),
  (q 28, .inr (0, [.ref (q 3), .ref (q 29), .long σ.2.2.2, .int (σ.2.1 6), .int (σ.2.1 7)])),
  (q 29, .inl (cJ, 40, .inr (.inl σ.2.2.1)))]
abbrev wM (cI _cJ : ClassId) (q : Nat → Nat) (σ : St) : va_W := [
  (q 0, .inr (7, [.int (σ.2.1 0), .int (σ.2.1 1), .int (σ.2.1 2), .int (σ.2.1 3), .int (σ.2.1 4), .ref (q 1), .ref (q 2), .ref (q 3), .ref (q 4), .ref (q 5), .ref (q 6), .ref (q 7), .ref (q 8), .ref (q 9), .ref (q 10), .ref (q 11), .ref (q 12), .ref (q 13), .ref (q 14), .ref (q 15), .ref (q 16), .ref (q 17), .ref (q 18), .ref (q 19), .ref (q 20), .ref (q 21)])),
  (q 1, .inl (cI, 40, .inl (σ.1 0))),
  (q 2, .inl (cI, 40, .inl (σ.1 1))),
  (q 3, .inl (cI, 40, .inl (σ.1 2))),
  (q 4, .inl (cI, 40, .inl (σ.1 3))),
  (q 5, .inl (cI, 40, .inl (σ.1 4))),
  (q 6, .inl (cI, 40, .inl (σ.1 5))),
  (q 7, .inl (cI, 40, .inl (σ.1 6))),
  (q 8, .inl (cI, 40, .inl (σ.1 7))),
  (q 9, .inl (cI, 40, .inl (σ.1 8))),
  (q 10, .inl (cI, 200, .inl (σ.1 15))),
  (q 11, .inl (cI, 200, .inl (σ.1 16))),
  (q 12, .inl (cI, 200, .inl (σ.1 17))),
  (q 13, .inl (cI, 200, .inl (σ.1 18))),
  (q 14, .inl (cI, 200, .inl (σ.1 19))),
  (q 15, .inl (cI, 300, .inl (σ.1 9))),
  (q 16, .inl (cI, 300, .inl (σ.1 10))),
  (q 17, .inl (cI, 300, .inl (σ.1 11))),
  (q 18, .inl (cI, 300, .inl (σ.1 12))),
  (q 19, .inl (cI, 300, .inl (σ.1 13))),
  (q 20, .inl (cI, 300, .inl (σ.1 14))),
  (q 21, .inl (cI, 40, .inl (σ.1 20)))]
def aT (N : Nat) (q : Nat → Nat) : Nat → Prop := fun a => ∃ k, k < N ∧ q k = a
def dT (N : Nat) (q : Nat → Nat) : Prop := ∀ i j, i < N → j < N → q i = q j → i = j
theorem xD {N : Nat} {q : Nat → Nat} {ws : va_W} (h : dT N q) (hm : ws.map Prod.fst = (List.range N).map q) : va_D (aT N q) ws := by
  have key : ∀ (k : Nat) (e : Nat × va_E), ws[k]? = some e → k < N ∧ q k = e.1 := by
    intro k e hk
    have h1 : (ws.map Prod.fst)[k]? = some e.1 := by rw [List.getElem?_map, hk]; rfl
    rw [hm, List.getElem?_map] at h1
    by_cases hl : k < N
    · rw [List.getElem?_range hl] at h1
      exact ⟨hl, Option.some.inj h1⟩
    · rw [List.getElem?_eq_none (by rw [List.length_range]; omega)] at h1
      cases h1
  exact ⟨fun i j x y hi hj hxy => h i j (key i x hi).1 (key j y hj).1 (by rw [(key i x hi).2, (key j y hj).2]; exact hxy), fun k e hk => ⟨k, (key k e hk).1, (key k e hk).2⟩⟩
theorem wT_D {cI cJ : ClassId} {q : Nat → Nat} {σ : St} (h : dT 30 q) : va_D (aT 30 q) (wT cI cJ q σ) := xD h rfl
theorem wM_D {cI cJ : ClassId} {q : Nat → Nat} {σ : St} (h : dT 22 q) : va_D (aT 22 q) (wM cI cJ q σ) := xD h rfl
abbrev Pu (D : va_G) (tys : List (ClassId × FieldType)) (w : va_W) (av : List Value) : Array Value → State → Prop := va_Pc av (fun U => va_P D vwCl w U.heap ∧ va_K D vwCl tys U)
theorem pu_blind {D : va_G} {tys : List (ClassId × FieldType)} {w : va_W} {av : List Value} : FrameBlind (Pu D tys w av) := fun a U g mk q => ⟨q.1, q.2.1, va_K.moved (u := U) (U := U.calling g mk a) (Vm.Alike.refl U.vm) q.2.2⟩
theorem preV {D : va_G} {tys : List (ClassId × FieldType)} {w : va_W} {s : State} {H : Heap} {b pos ci : Nat} {fs : List Value} {r : vw_C} {As : List Value} (hK : va_K D vwCl tys s) (hP : va_P D vwCl w H) (he : w[pos]? = some (b, .inr (ci, fs))) (hc : vwCl[ci]? = some r) : PreV s H r.1 b (Pu D tys w (.ref b :: As)) As := ⟨pu_blind, va_recv hK hP hc he, fun U hU hW => ⟨rfl, by rw [hU]; exact hP, va_K.moved hW.alike hK⟩⟩
theorem preS {D : va_G} {tys : List (ClassId × FieldType)} {w : va_W} {s : State} {H : Heap} {As : List Value} (hK : va_K D vwCl tys s) (hP : va_P D vwCl w H) : PreS s H (Pu D tys w As) As := ⟨pu_blind, fun U hU hW => ⟨rfl, by rw [hU]; exact hP, va_K.moved hW.alike hK⟩⟩
/-- a method that writes: its answer, its world behind it, nothing else changed -/
def xw_Q (rv : Option Value) (D : va_G) (w1 : va_W) (A : Nat → Prop) : Array Value → State → Outcome → State → Prop := fun _ st oc t => oc = .returned rv ∧ va_P D vwCl w1 t.heap ∧ va_F A st t
theorem gV {own C : String} {idx n : Nat} {y : MethodName} {b : ByteArray} {r : Option FieldType} (h1 : Cond.methodLink own idx y ∈ tb) (h2 : Cond.instanceMethod y ∈ tb) (h3 : Cond.selects C y y ∈ tb) (h4 : Cond.initialized C ∈ tb) (h5 : Cond.code y b n r ∈ tb) : GoodIn tb (wsV own idx C y (.code y b n r :: tb)) := by
  refine tbl_in (fun w hw => ?_)
  rcases List.mem_append.mp hw with h | h
  · simp only [List.mem_cons, List.not_mem_nil, or_false] at h
    rcases h with rfl | rfl | rfl | rfl <;> assumption
  · rcases List.mem_cons.mp h with rfl | h
    · exact h5
    · exact h
theorem gS {own : String} {idx n : Nat} {y : MethodName} {b : ByteArray} {r : Option FieldType} (h1 : Cond.methodLink own idx y ∈ tb) (h2 : Cond.static y ∈ tb) (h4 : Cond.initialized y.cls ∈ tb) (h5 : Cond.code y b n r ∈ tb) : GoodIn tb (va_wsS own idx y (.code y b n r :: tb)) := by
  refine tbl_in (fun w hw => ?_)
  rcases List.mem_append.mp hw with h | h
  · simp only [List.mem_cons, List.not_mem_nil, or_false] at h
    rcases h with rfl | rfl | rfl <;> assumption
  · rcases List.mem_cons.mp h with rfl | h
    · exact h5
    · exact h
theorem gI {n : Nat} {y : MethodName} {b : ByteArray} {r : Option FieldType} (h5 : Cond.code y b n r ∈ tb) : GoodIn tb (.code y b n r :: tb) := by
  refine tbl_in (fun w hw => ?_)
  rcases List.mem_cons.mp hw with rfl | h
  · exact h5
  · exact h
section XR
variable {p : Program} {l : Launch} {e : Env} {R : Room} {s : State} {m : MethodId} {args : Array Value} {below : List Frame} {meth : Method} {c : Code} {H : Heap} {locs : List Loc} {cells slots : Nat} {Q : State → Prop}
variable {cc : ByteArray} {pc : Nat} {ls : Array Slot} {rest st0 : List Value} {a : Array Value} {A0 A1 : Nat → Prop} {H0 : Heap} {free : Addr → Prop} {D : va_G} {ws : va_W} {tys : List (ClassId × FieldType)}
theorem xc_i {v : Int32} (hr : va_Run p l e R s m args below meth c H locs cells slots 0 0 (F0 m pc ls st0) rest (vp_Si (fun r => r = v) a) (fun _ => False)) (kk : W p l e R s m args below meth c H locs cells slots Q (F0 m (pc + 3) ls (.int v :: rest))) : W p l e R s m args below meth c H locs cells slots Q (F0 m pc ls st0) := by
  intro T hT X
  obtain ⟨w, st₀, t, T', L, h0, X', hL, e1, e2, ⟨r, hv, hp, hh⟩, st⟩ := hr T hT X
  cases hv
  subst hp
  have hL0 : L = [] := by
    cases L with
    | nil => rfl
    | cons q L => exact (hL q List.mem_cons_self).elim
  subst hL0
  rw [List.append_nil] at X'
  obtain ⟨t2, a1, b1⟩ := kk T' (by rw [e1, hh, h0]) X'
  exact ⟨t2, st t2 a1, b1⟩
theorem xc_l {v : Int64} (hr : va_Run p l e R s m args below meth c H locs cells slots 0 0 (F0 m pc ls st0) rest (vp_Sl (fun r => r = v) a) (fun _ => False)) (kk : W p l e R s m args below meth c H locs cells slots Q (F0 m (pc + 3) ls (.long v :: rest))) : W p l e R s m args below meth c H locs cells slots Q (F0 m pc ls st0) := by
  intro T hT X
  obtain ⟨w, st₀, t, T', L, h0, X', hL, e1, e2, ⟨r, hv, hp, hh⟩, st⟩ := hr T hT X
  cases hv
  subst hp
  have hL0 : L = [] := by
    cases L with
    | nil => rfl
    | cons q L => exact (hL q List.mem_cons_self).elim
  subst hL0
  rw [List.append_nil] at X'
  obtain ⟨t2, a1, b1⟩ := kk T' (by rw [e1, hh, h0]) X'
  exact ⟨t2, st t2 a1, b1⟩
theorem xw_c {rv : Option Value} {w1 : va_W} (hr : va_Run p l e R s m args below meth c H locs cells slots 0 0 (F0 m pc ls st0) rest (xw_Q rv D w1 A1 a) A1) (hS : va_S A0 H0 H locs) (hA : ∀ q, A1 q → A0 q)
    (kk : ∀ (H1 : Heap) (locs1 : List Loc), va_P D vwCl w1 H1 → H.size ≤ H1.size → (∀ q : Nat, q < H.size → ¬ A1 q → H1[q]? = H[q]?) → va_S A0 H0 H1 locs1 → W p l e R s m args below meth c H1 locs1 cells slots Q (F0 m (pc + 3) ls (rv.toList ++ rest))) : W p l e R s m args below meth c H locs cells slots Q (F0 m pc ls st0) := by
  intro T hT X
  obtain ⟨v, st₀, t, T', L, h0, X', hL, e1, e2, ⟨hv, hp, hz, hk⟩, st⟩ := hr T hT X
  cases hv
  rw [h0] at hz hk
  obtain ⟨t2, a1, b1⟩ := kk T'.heap (locs ++ L) (by rw [e1]; exact hp) (by rw [e1]; exact hz) (fun q h1 h2 => by rw [e1]; exact hk q h1 h2)
    ⟨Nat.le_trans hS.1 (by rw [e1]; exact hz), fun q h1 h2 => by rw [e1, hk q (Nat.lt_of_lt_of_le h1 hS.1) (fun z => h2 (hA q z))]; exact hS.2.1 q h1 h2, fun q hq => by
      rcases List.mem_append.mp hq with h | h
      · exact hS.2.2 q h
      · exact hA _ (hL q h)⟩ T' rfl X'
  exact ⟨t2, st t2 a1, b1⟩
theorem xa_ild (hexec : p.tables.exec = Jvm.exec) (hb : c.code = cc) (hK : va_K D vwCl tys s) (hP : va_P D vwCl ws H) {b : Nat} (q0 t0 : Nat) {cA : ClassId} {n : Nat} {f : Nat → Int32} (ha : ws[q0]? = some (b, .inl (cA, n, .inl f))) (ht : tys[t0]? = some (cA, .int)) {i : Nat} (hi : i < n) (hn : n < 2 ^ 31) (hdg : decode cc pc = .ok (.iaload, 1))
    (kk : W p l e R s m args below meth c H locs cells slots Q (F0 m (pc + 1) ls (.int (f i) :: rest))) : W p l e R s m args below meth c H locs cells slots Q (F0 m pc ls (.int (nI i) :: .ref b :: rest)) := by
  refine va_iald hexec hb hK hP q0 t0 ha ht (vp_in_nI hi hn) hdg ?_
  rw [nI_clamp (by omega)]
  exact kk
theorem xa_lld (hexec : p.tables.exec = Jvm.exec) (hb : c.code = cc) (hK : va_K D vwCl tys s) (hP : va_P D vwCl ws H) {b : Nat} (q0 t0 : Nat) {cA : ClassId} {n : Nat} {f : Nat → Int64} (ha : ws[q0]? = some (b, .inl (cA, n, .inr (.inl f)))) (ht : tys[t0]? = some (cA, .long)) {i : Nat} (hi : i < n) (hn : n < 2 ^ 31) (hdg : decode cc pc = .ok (.laload, 1))
    (kk : W p l e R s m args below meth c H locs cells slots Q (F0 m (pc + 1) ls (.long (f i) :: rest))) : W p l e R s m args below meth c H locs cells slots Q (F0 m pc ls (.int (nI i) :: .ref b :: rest)) := by
  refine va_lald hexec hb hK hP q0 t0 ha ht (vp_in_nI hi hn) hdg ?_
  rw [nI_clamp (by omega)]
  exact kk
/-- a switch over 0 .. n-1 -/
theorem xs_in (hexec : p.tables.exec = Jvm.exec) (hb : c.code = cc) {dflt lo hi : Int} {offs : Array Int} {len : Nat} {x : Int32} {off : Int} {tgt : Nat} (v : Int32) (hxv : x = v) (hdg : decode cc pc = .ok (.tableswitch dflt lo hi offs, len)) (h1 : decide (v.toInt < lo) = false) (h2 : decide (hi < v.toInt) = false) (ho : offs[(v.toInt - lo).toNat]? = some off) (ht : (pc : Int) + off = (tgt : Int))
    (k : W p l e R s m args below meth c H locs cells slots Q (F0 m tgt ls rest)) : W p l e R s m args below meth c H locs cells slots Q (F0 m pc ls (.int x :: rest)) := by
  subst hxv
  exact lv_tableIn hexec hb hdg (of_decide_eq_false h1) (of_decide_eq_false h2) ho ht k
end XR
theorem xs_out {x : Int32} {n : Nat} (hn : n < 2 ^ 31) (h : ∀ k, k < n → ¬ x = nI k) : x.toInt < 0 ∨ ((n : Int) - 1) < x.toInt := by
  rcases pk_ix x hn with h1 | h1 | ⟨j, hj, rfl⟩
  · left
    have := Int32.lt_iff_toInt_lt.mp h1
    simpa using this
  · right
    have := Int32.le_iff_toInt_le.mp h1
    rw [nI_toInt hn] at this
    omega
  · exact absurd rfl (h j hj)
def szI (x : Int32) (N : Nat) : Prop := x = nI x.toNatClampNeg ∧ x.toNatClampNeg ≤ N
/-- the bounds that keep every index in its row -/
def IB (σ : St) : Prop := szI (σ.2.1 1) 40 ∧ szI (σ.2.1 2) 200 ∧ szI (σ.2.1 3) 300 ∧ szI (σ.2.1 4) 40 ∧ (∀ j, j < (σ.2.1 3).toNatClampNeg → vp_in (σ.1 14 j) 40) ∧ (∀ j, j < (σ.2.1 2).toNatClampNeg → vp_in (σ.1 19 j) 40)
theorem vp_in_lt {x : Int32} {n : Nat} (h : vp_in x n) : x.toNatClampNeg < n := Nat.not_le.mp fun q => h (Or.inr q)
theorem vp_in_mono {x : Int32} {n k : Nat} (h : vp_in x n) (hk : n ≤ k) : vp_in x k := fun q => h (q.elim Or.inl (fun z => Or.inr (Nat.le_trans hk z)))
theorem vp_in_nIc {x : Int32} {n : Nat} (h : vp_in x n) (hn : n < 2 ^ 31) : x = nI x.toNatClampNeg := by
  obtain ⟨j, hj, rfl⟩ := vp_in_of h hn
  rw [nI_clamp (by omega)]
/-- an index tested against 0 and a size -/
theorem in_size {x z : Int32} {N : Nat} (hz : szI z N) (hN : N < 2 ^ 31) (h1 : ¬ x < 0) (h2 : ¬ z ≤ x) : vp_in x z.toNatClampNeg := by
  obtain ⟨j, hj, rfl⟩ := nI_of h1
  rw [hz.1] at h2
  refine vp_in_nI ?_ (by have := hz.2; omega)
  rcases Nat.lt_or_ge j z.toNatClampNeg with q | q
  · exact q
  · exact absurd (nI_le q hj) h2
