/-- all cells from b on, n of them -/
def wn (b n : Nat) (c : Nat → va_E) : va_W := (List.range n).map (fun o => (b + o, c o))
theorem wn_get (b : Nat) (c : Nat → va_E) {n o : Nat} (h : o < n) : (wn b n c)[o]? = some (b + o, c o) := by simp [wn, h]
theorem wn_len (b n : Nat) (c : Nat → va_E) : (wn b n c).length = n := by simp [wn]
theorem wn_D (b n : Nat) (c : Nat → va_E) : va_D (AA b) (wn b n c) := by
  have key : ∀ (k : Nat) (q : Nat × va_E), (wn b n c)[k]? = some q → q.1 = b + k := by
    intro k q hk
    have hl : k < n := by have := (List.getElem?_eq_some_iff.mp hk).1; rwa [wn_len] at this
    rw [wn_get b c hl] at hk
    cases hk
    rfl
  refine ⟨fun i j x y hi hj hxy => ?_, fun k q hk => ?_⟩
  · have h1 := key i x hi
    have h2 := key j y hj
    omega
  · show b ≤ q.1
    rw [key k q hk]
    omega
theorem wn_set {b n : Nat} {c : Nat → va_E} {o : Nat} {e : va_E} (ho : o < n) : (wn b n c).set o (b + o, e) = wn b n (va_up c o e) := by
  apply List.ext_getElem?
  intro j
  by_cases hj : j = o
  · subst hj
    rw [List.getElem?_set_self (by rw [wn_len]; exact ho), wn_get _ _ ho, va_up_self]
  · rw [List.getElem?_set_ne (Ne.symm hj)]
    by_cases hl : j < n
    · rw [wn_get _ _ hl, wn_get _ _ hl, va_up_ne _ _ hj]
    · rw [List.getElem?_eq_none (by rw [wn_len]; omega), List.getElem?_eq_none (by rw [wn_len]; omega)]
theorem wn_P {D : va_G} {b n : Nat} {c : Nat → va_E} {H : Heap} (h : ∀ k, k < n → va_at D vwCl (b + k, c k) H) : va_P D vwCl (wn b n c) H := by
  intro k q hk
  have hl : k < n := by have := (List.getElem?_eq_some_iff.mp hk).1; rwa [wn_len] at this
  rw [wn_get b c hl] at hk
  cases hk
  exact h k hl
theorem wn_at {D : va_G} {b n : Nat} {c : Nat → va_E} {H : Heap} (h : va_P D vwCl (wn b n c) H) {k : Nat} (hk : k < n) : va_at D vwCl (b + k, c k) H := h k _ (wn_get b c hk)
def nestI : List (String × Nat × MethodName × String) := [(RX7, 9, yX2_init, RX7), (RX2, 11, yX4_init, RX7), (RX2, 20, yX6_init, RX7), (RX7, 38, yX0_init, RX7), (RX7, 45, yX3_init, RX7), (RX7, 52, yX6_init, RX7)]
def KN (E : EE) (U : State) : Prop := KW E U ∧ (∀ q ∈ nestI, va_Nw (.methodLinkNest q.1 q.2.1 q.2.2.1 q.2.2.2) U) ∧ va_AO RX1 U ∧ va_AO RX5 U
theorem KN.warm {E : EE} {s U : State} (hW : s.WarmedH U.vm) (h : KN E s) : KN E U := ⟨h.1.warm hW, fun q hq => (h.2.1 q hq).warmM hW, h.2.2.1.moved hW.alike, h.2.2.2.moved hW.alike⟩
def PN (E : EE) (b n : Nat) (c : Nat → va_E) (U : State) : Prop := va_P E.1 vwCl (wn b n c) U.heap ∧ U.heap.size = b + n ∧ KN E U
def CN (E : EE) (p : Program) (s : State) (m : MethodId) (args : Array Value) (c : Code) (cc : ByteArray) (nL : Nat) (own : String) : Prop :=
  p.tables.exec = Jvm.exec ∧ c.code = cc ∧ c.maxLocals = nL ∧ s.vm.findClass own = some m.cls ∧ (∀ w ∈ wt, w.before args s = true) ∧ KN E s
def WN (E : EE) (b n : Nat) (c : Nat → va_E) (s : State) (H : Heap) (locs : List Loc) : Prop := va_P E.1 vwCl (wn b n c) H ∧ H.size = b + n ∧ va_S (AA b) s.heap H locs
theorem blindN {E : EE} {b n : Nat} {c : Nat → va_E} (av : List Value) : FrameBlind (va_Pc av (PN E b n c)) := fun a U g mk q => by
  obtain ⟨q0, q1, q2, ⟨q3, q4⟩, q5, q6, q7⟩ := q
  exact ⟨q0, q1, q2, ⟨va_K.moved (u := U) (U := U.calling g mk a) (Vm.Alike.refl U.vm) q3, fun w hw => va_Nw.same rfl rfl (q4 w hw)⟩, fun w hw => va_Nw.same rfl rfl (q5 w hw), va_AO.moved (u := U) (U := U.calling g mk a) (Vm.Alike.refl U.vm) q6, va_AO.moved (u := U) (U := U.calling g mk a) (Vm.Alike.refl U.vm) q7⟩
section NROW
variable {p : Program} {l : Launch} {e : Env} {R : Room} {s : State} {m : MethodId} {args : Array Value} {below : List Frame} {meth : Method} {c0 : Code} {H : Heap} {locs : List Loc} {cells slots : Nat} {Q : State → Prop} {E : EE} {b n : Nat} {c : Nat → va_E} {cc : ByteArray} {nL pc : Nat} {ls : Array Slot} {rest : List Value} {own : String}
theorem n_get (X : CN E p s m args c0 cc nL own) (hw : WN E b n c s H locs) {o ci N index : Nat} (k : Nat) {C : String} {T : u_T} {fs : List Value} {v : Value} (ho : o < n) (hce : c o = .inr (ci, fs)) (hin : ∀ w ∈ u_ws C T N, w ∈ wt) (hc : vwCl[ci]? = some (C, T, N)) (hk : k < N) (hlink : Cond.fieldLink own index C (T k).2.1 (T k).2.2.1 ∈ wt) (hT : (T k).1 = C) (hv : fs[k]? = some v) (hdg : decode cc pc = .ok (.getfield index, 3)) (kk : W p l e R s m args below meth c0 H locs cells slots Q (F0 m (pc + 3) ls (v :: rest))) : W p l e R s m args below meth c0 H locs cells slots Q (F0 m pc ls (.ref (b + o) :: rest)) :=
  va_get X.1 X.2.1 X.2.2.2.2.1 hin X.2.2.2.1 X.2.2.2.2.2.1.1 hw.1 o (by rw [wn_get b c ho, hce]) hc k hk (X.2.2.2.2.1 _ hlink) (by rw [hT]; exact fun _ h => h) hv hdg kk
theorem n_put (X : CN E p s m args c0 cc nL own) (hw : WN E b n c s H locs) {o ci N index : Nat} (k : Nat) {C : String} {T : u_T} {fs : List Value} {v : Value} (ho : o < n) (hce : c o = .inr (ci, fs)) (hin : ∀ w ∈ u_ws C T N, w ∈ wt) {ty0 : Nat → FieldType} (hty : ∀ k, k < N → parseFieldDescriptor (T k).2.2.1 = some (ty0 k)) (hnm : ∀ a, a < N → ∀ b, b < N → a ≠ b → (T a).2.1 ≠ (T b).2.1) (hc : vwCl[ci]? = some (C, T, N)) (hk : k < N) (hlink : Cond.fieldLink own index C (T k).2.1 (T k).2.2.1 ∈ wt) (hT : (T k).1 = C) (hfin : (T k).2.2.2 = false) {ty : FieldType} (hd : parseFieldDescriptor (T k).2.2.1 = some ty) (hn : narrow ty v = v) (hfit : fits ty v = true) (hl : k < fs.length) (hdg : decode cc pc = .ok (.putfield index, 3)) (kk : ∀ (H1 : Heap) (locs1 : List Loc), WN E b n (va_up c o (.inr (ci, fs.set k v))) s H1 locs1 → W p l e R s m args below meth c0 H1 locs1 cells slots Q (F0 m (pc + 3) ls rest)) : W p l e R s m args below meth c0 H locs cells slots Q (F0 m pc ls (v :: .ref (b + o) :: rest)) := by
  have hts := X.2.2.2.2.1
  have hK := X.2.2.2.2.2.1.1
  have hap := va_apart (own := own) hts hin ty0 hty hnm hK hc
  have he : (wn b n c)[o]? = some (b + o, .inr (ci, fs)) := by rw [wn_get b c ho, hce]
  obtain ⟨r, h1, cell, q1, q2, q3, q4⟩ := hw.1 o _ he
  have hr : r = (C, T, N) := Option.some.inj (h1.symm.trans hc)
  subst hr
  obtain ⟨hS, hfc, kC, hkC, hkind⟩ := hK.1 ci _ hc
  obtain ⟨cf, kf, fi, f, hi, hsl⟩ := hS k hk
  have hlay := hts _ (hin _ (u_in_lay hk))
  unfold u_lay at hlay
  rw [if_neg (by rw [hfin]; decide)] at hlay
  have hst := (u_facts hfc hkC (u_lays hts hin hk) hi).1
  have h6 := u_store hfc hkC hkind hlay hi hd hn hfit
  refine W.putK X.1 X.2.1 (f := f) ⟨X.2.2.2.1, hts _ hlink, ⟨_, _, _, (by rw [← hT]; exact hi)⟩, hst⟩ (by rw [q2]; exact h6) q1 q3 (by rw [hsl]; exact k2_hasslot (q4 k hk)) rfl rfl hdg fun H' e1 e2 e3 => ?_
  rw [hsl] at e1 ⊢
  refine kk H' _ ⟨?_, by rw [e2]; exact hw.2.1, hw.2.2.put e2 e3 (show b ≤ b + o by omega)⟩
  rw [← wn_set ho]
  exact hw.1.set (wn_D b n c) he ⟨_, hc, t_OB.to (V := updV (vp_V fs) k v) ⟨_, e1, q2, q3, t_set q4 hap hk v⟩ (fun j _ => vp_updV_set hl v j)⟩ e3
theorem n_putF (X : CN E p s m args c0 cc nL own) (hw : WN E b n c s H locs) {o ci N index : Nat} (k : Nat) {C : String} {T : u_T} {fs : List Value} {v : Value} (ho : o < n) (hce : c o = .inr (ci, fs)) (hin : ∀ w ∈ u_ws C T N, w ∈ wt) {ty0 : Nat → FieldType} (hty : ∀ k, k < N → parseFieldDescriptor (T k).2.2.1 = some (ty0 k)) (hnm : ∀ a, a < N → ∀ b, b < N → a ≠ b → (T a).2.1 ≠ (T b).2.1) (hc : vwCl[ci]? = some (C, T, N)) (hk : k < N) (hlink : Cond.fieldLink own index C (T k).2.1 (T k).2.2.1 ∈ wt) (hT : (T k).1 = C) (hfin : (T k).2.2.2 = true) (hin2 : meth.name = "<init>") (hown2 : C = own) {ty : FieldType} (hd : parseFieldDescriptor (T k).2.2.1 = some ty) (hn : narrow ty v = v) (hfit : fits ty v = true) (hl : k < fs.length) (hdg : decode cc pc = .ok (.putfield index, 3)) (kk : ∀ (H1 : Heap) (locs1 : List Loc), WN E b n (va_up c o (.inr (ci, fs.set k v))) s H1 locs1 → W p l e R s m args below meth c0 H1 locs1 cells slots Q (F0 m (pc + 3) ls rest)) : W p l e R s m args below meth c0 H locs cells slots Q (F0 m pc ls (v :: .ref (b + o) :: rest)) := by
  have hts := X.2.2.2.2.1
  have hK := X.2.2.2.2.2.1.1
  have hap := va_apart (own := own) hts hin ty0 hty hnm hK hc
  have he : (wn b n c)[o]? = some (b + o, .inr (ci, fs)) := by rw [wn_get b c ho, hce]
  obtain ⟨r, h1, cell, q1, q2, q3, q4⟩ := hw.1 o _ he
  have hr : r = (C, T, N) := Option.some.inj (h1.symm.trans hc)
  subst hr
  obtain ⟨hS, hfc, kC, hkC, hkind⟩ := hK.1 ci _ hc
  obtain ⟨cf, kf, fi, f, hi, hsl⟩ := hS k hk
  have hlay := hts _ (hin _ (u_in_lay hk))
  unfold u_lay at hlay
  rw [if_pos hfin] at hlay
  have hst := (u_facts hfc hkC (u_lays hts hin hk) hi).1
  have hcf : m.cls = cf := by
    obtain ⟨_, _, c', _, _, _, -, -, hf', -, -, -, hown3, -⟩ := Cond.laysFinal_spec hlay
    have e1 : c' = cf := by have := hi.symm.trans hf'; simp at this; exact this.1.symm
    rw [hT, hown2] at hown3
    rw [← e1]; exact Option.some.inj (X.2.2.2.1.symm.trans hown3)
  have h6 := u_fits hfc hkC hkind (Or.inr hlay) hi hd hn hfit
  refine W.putFinK X.1 X.2.1 X.2.2.2.1 (hts _ hlink) (by rw [← hT]; exact hi) hst hcf hin2 (by rw [q2]; exact h6) q1 q3 (by rw [hsl]; exact k2_hasslot (q4 k hk)) rfl rfl hdg fun H' e1 e2 e3 => ?_
  rw [hsl] at e1 ⊢
  refine kk H' _ ⟨?_, by rw [e2]; exact hw.2.1, hw.2.2.put e2 e3 (show b ≤ b + o by omega)⟩
  rw [← wn_set ho]
  exact hw.1.set (wn_D b n c) he ⟨_, hc, t_OB.to (V := updV (vp_V fs) k v) ⟨_, e1, q2, q3, t_set q4 hap hk v⟩ (fun j _ => vp_updV_set hl v j)⟩ e3
theorem wn_push {D : va_G} {H H1 : Heap} {x : va_E} (hP : va_P D vwCl (wn b n c) H) (hz : H.size = b + n) (o1 : ∀ q, q < H.size → H1[q]? = H[q]?) (he : va_at D vwCl (b + n, x) H1) : va_P D vwCl (wn b (n + 1) (va_up c n x)) H1 := by
  refine wn_P fun k hk => ?_
  by_cases h : k = n
  · subst h; rw [va_up_self]; exact he
  · rw [va_up_ne _ _ h]
    have h2 := wn_at hP (show k < n by omega)
    exact h2.kept (o1 _ h2.lt)
theorem S_push {H H1 : Heap} (hS : va_S (AA b) s.heap H locs) (z1 : H1.size = H.size + 1) (o1 : ∀ q, q < H.size → H1[q]? = H[q]?) : va_S (AA b) s.heap H1 locs :=
  ⟨by have := hS.1; omega, fun x h1 h2 => (o1 x (Nat.lt_of_lt_of_le h1 hS.1)).trans (hS.2.1 x h1 h2), hS.2.2⟩
theorem n_new (X : CN E p s m args c0 cc nL own) (hw : WN E b n c s H locs) {C : String} {T : u_T} {N ci index : Nat} {fs : List Value} (hin : ∀ w ∈ u_ws C T N, w ∈ wt) (ty : Nat → FieldType) (hty : ∀ k, k < N → parseFieldDescriptor (T k).2.2.1 = some (ty k)) (hcl : Cond.classLink own index C ∈ wt) (hinst : Cond.instantiable C N ∈ wt) (hini : Cond.initialized C ∈ wt) (hc : vwCl[ci]? = some (C, T, N)) (hfs : ∀ j, j < N → defaultValue (ty j) = vp_V fs j) (hcells : cells + 1 ≤ R.cells) (hslots : slots + N ≤ R.slots) (hdg : decode cc pc = .ok (.new index, 3)) (kk : ∀ (H1 : Heap), WN E b (n + 1) (va_up c n (.inr (ci, fs))) s H1 locs → W p l e R s m args below meth c0 H1 locs (cells + 1) (slots + N) Q (F0 m (pc + 3) ls (.ref (b + n) :: rest))) : W p l e R s m args below meth c0 H locs cells slots Q (F0 m pc ls rest) := by
  have hts := X.2.2.2.2.1
  have hKn := X.2.2.2.2.2.1.1.1 ci _ hc
  refine W.newcK X.1 X.2.1 X.2.2.2.1 (hts _ hcl) (hts _ hinst) (hts _ hini) rfl hdg hcells hslots hKn.2.1 hw.2.1 fun H1 kC hkC e1 z1 o1 => ?_
  rw [← hw.2.1] at z1 o1
  exact kk H1 ⟨wn_push hw.1 hw.2.1 o1 ⟨_, hc, (u_born ty hts hin hKn hkC e1 hty).to hfs⟩, by rw [z1, hw.2.1]; omega, S_push hw.2.2 z1 o1⟩
theorem n_newi (X : CN E p s m args c0 cc nL own) (hw : WN E b n c s H locs) (harr : Cond.arrayClass .int ∈ wt) {v : Int32} {N : Nat} (hn : ¬ v < 0) (hN : v.toNatClampNeg = N) (hbytes : N * 4 ≤ 536870912) (hcells : cells + 1 ≤ R.cells) (hslots : slots + N ≤ R.slots) (hdg : decode cc pc = .ok (.newarray .int, 2)) (kk : ∀ (H1 : Heap), WN E b (n + 1) (va_up c n (.inl (E.2.1, N, .inl (fun _ => 0)))) s H1 locs → W p l e R s m args below meth c0 H1 locs (cells + 1) (slots + N) Q (F0 m (pc + 2) ls (.ref (b + n) :: rest))) : W p l e R s m args below meth c0 H locs cells slots Q (F0 m pc ls (.int v :: rest)) := by
  refine va_newaK (atype := .int) X.1 X.2.1 (X.2.2.2.2.1 _ harr) rfl hdg rfl hn hN hbytes hcells hslots hw.2.1 fun H1 cA e1 z1 o1 hAr hNm => ?_
  have hcA : cA = E.2.1 := Option.some.inj (hNm.symm.trans ((X.2.2.2.2.2.1.1.2 0 _ rfl).2))
  subst hcA
  rw [← hw.2.1] at z1 o1
  exact kk H1 ⟨wn_push hw.1 hw.2.1 o1 (by show H1[b + n]? = some (vp_cell _ _); rw [vp_cell_i]; exact e1), by rw [z1, hw.2.1]; omega, S_push hw.2.2 z1 o1⟩
theorem n_newz (X : CN E p s m args c0 cc nL own) (hw : WN E b n c s H locs) (harr : Cond.arrayClass .boolean ∈ wt) {v : Int32} {N : Nat} (hn : ¬ v < 0) (hN : v.toNatClampNeg = N) (hbytes : N * 1 ≤ 536870912) (hcells : cells + 1 ≤ R.cells) (hslots : slots + N ≤ R.slots) (hdg : decode cc pc = .ok (.newarray .boolean, 2)) (kk : ∀ (H1 : Heap), WN E b (n + 1) (va_up c n (.inl (E.2.2.1, N, .inl (fun _ => 0)))) s H1 locs → W p l e R s m args below meth c0 H1 locs (cells + 1) (slots + N) Q (F0 m (pc + 2) ls (.ref (b + n) :: rest))) : W p l e R s m args below meth c0 H locs cells slots Q (F0 m pc ls (.int v :: rest)) := by
  refine va_newaK (atype := .boolean) X.1 X.2.1 (X.2.2.2.2.1 _ harr) rfl hdg rfl hn hN hbytes hcells hslots hw.2.1 fun H1 cA e1 z1 o1 hAr hNm => ?_
  have hcA : cA = E.2.2.1 := Option.some.inj (hNm.symm.trans ((X.2.2.2.2.2.1.1.2 1 _ rfl).2))
  subst hcA
  rw [← hw.2.1] at z1 o1
  exact kk H1 ⟨wn_push hw.1 hw.2.1 o1 (by show H1[b + n]? = some (vp_cell _ _); rw [vp_cell_i]; exact e1), by rw [z1, hw.2.1]; omega, S_push hw.2.2 z1 o1⟩
theorem n_newq (X : CN E p s m args c0 cc nL own) (hw : WN E b n c s H locs) {C : String} {cT : ClassId} {index : Nat} (t0 : Nat) (ht : (tysE E)[t0]? = some (cT, .object C)) (hcl : Cond.classLink own index C ∈ wt) (hover : va_AO C s) {v : Int32} {N : Nat} (hn : ¬ v < 0) (hN : v.toNatClampNeg = N) (hbytes : N * 4 ≤ 536870912) (hcells : cells + 1 ≤ R.cells) (hslots : slots + N ≤ R.slots) (hdg : decode cc pc = .ok (.anewarray index, 3)) (kk : ∀ (H1 : Heap), WN E b (n + 1) (va_up c n (.inl (cT, N, .inr (.inr (.inr (.inr (fun _ => none))))))) s H1 locs → W p l e R s m args below meth c0 H1 locs (cells + 1) (slots + N) Q (F0 m (pc + 3) ls (.ref (b + n) :: rest))) : W p l e R s m args below meth c0 H locs cells slots Q (F0 m pc ls (.int v :: rest)) := by
  subst hN
  refine W.anew X.1 X.2.1 X.2.2.2.1 (X.2.2.2.2.1 _ hcl) (va_AO.use hover) rfl hdg rfl hn hbytes hcells hslots fun cA kA comp f1 f2 f3 f4 => ?_
  generalize hH1 : H.push ({ cls := cA, slots := Array.replicate v.toNatClampNeg .null, vm := .none } : Cell) = H1
  have z1 : H1.size = H.size + 1 := by rw [← hH1, Array.size_push]
  have e1 : H1[H.size]? = some (arrV cA v.toNatClampNeg (fun _ => .null)) := by rw [← hH1, Array.getElem?_push_size, ← arrV_new]
  have o1 : ∀ q : Nat, q < H.size → H1[q]? = H[q]? := fun q hq => by rw [← hH1, Array.getElem?_push, if_neg (Nat.ne_of_lt hq)]
  obtain ⟨-, kA', comp', g1, g2, g3, g4⟩ := X.2.2.2.2.2.1.1.2 t0 _ ht
  have hcA : cA = cT := Option.some.inj (f1.symm.trans g4)
  subst hcA
  rw [hw.2.1] at e1 ⊢
  exact kk H1 ⟨wn_push hw.1 hw.2.1 o1 (by show H1[b + n]? = some (vp_cell _ _); rw [vp_cell_q]; exact e1), by rw [z1, hw.2.1]; omega, S_push hw.2.2 z1 o1⟩
theorem n_alen (X : CN E p s m args c0 cc nL own) (hw : WN E b n c s H locs) {o N : Nat} {f : Nat → Int32} (ho : o < n) (hce : c o = .inl (E.2.1, N, .inl f)) (hdg : decode cc pc = .ok (.arraylength, 1)) (kk : W p l e R s m args below meth c0 H locs cells slots Q (F0 m (pc + 1) ls (.int (Int32.ofNat N) :: rest))) : W p l e R s m args below meth c0 H locs cells slots Q (F0 m pc ls (.ref (b + o) :: rest)) :=
  va_alen X.1 X.2.1 X.2.2.2.2.2.1.1 hw.1 o 0 (by rw [wn_get b c ho, hce]) (ty := .int) rfl rfl hdg kk
theorem n_iast (X : CN E p s m args c0 cc nL own) (hw : WN E b n c s H locs) {o N : Nat} {f : Nat → Int32} (ho : o < n) (hce : c o = .inl (E.2.1, N, .inl f)) {i x : Int32} (hin : vp_in i N) (hdg : decode cc pc = .ok (.iastore, 1)) (kk : ∀ (H1 : Heap) (locs1 : List Loc), WN E b n (va_up c o (.inl (E.2.1, N, .inl (upd f i.toNatClampNeg x)))) s H1 locs1 → W p l e R s m args below meth c0 H1 locs1 cells slots Q (F0 m (pc + 1) ls rest)) : W p l e R s m args below meth c0 H locs cells slots Q (F0 m pc ls (.int x :: .int i :: .ref (b + o) :: rest)) := by
  have ha : (wn b n c)[o]? = some (b + o, .inl (E.2.1, N, .inl f)) := by rw [wn_get b c ho, hce]
  refine W.iast X.1 X.2.1 (hw.1 o _ ha) ((X.2.2.2.2.2.1.1.2 0 _ rfl).1 N (fun j => .int (f j))) (fun q => by cases q) (by show ¬ (i < 0 ∨ (arrV _ _ _).slots.size ≤ _); rw [arrV_size]; exact hin) rfl rfl hdg fun H1 e1 z oq => ?_
  refine kk H1 _ ⟨?_, by rw [z]; exact hw.2.1, hw.2.2.put z oq (show b ≤ b + o by omega)⟩
  rw [← wn_set ho]
  refine hw.1.set (wn_D b n c) ha ?_ oq
  show H1[b + o]? = some (vp_cell _ _)
  rw [e1]
  rw [vp_cell_i, vp_cell_i, arrV_store]
  congr 2
  funext q
  by_cases hq : q = i.toNatClampNeg
  · subst hq
    simp [updV, upd]
  · simp [updV, upd, hq]
theorem n_aast (X : CN E p s m args c0 cc nL own) (hw : WN E b n c s H locs) {o N ci v : Nat} {cT : ClassId} {r : vw_C} {vs : List Value} {f : Nat → Option Nat} (t0 : Nat) (ht : (tysE E)[t0]? = some (cT, .object r.1)) (ho : o < n) (hce : c o = .inl (cT, N, .inr (.inr (.inr (.inr f))))) (hv : v < n) (hcv : c v = .inr (ci, vs)) (hc : vwCl[ci]? = some r) {i : Int32} (hin : vp_in i N) (hdg : decode cc pc = .ok (.aastore, 1)) (kk : ∀ (H1 : Heap) (locs1 : List Loc), WN E b n (va_up c o (.inl (cT, N, .inr (.inr (.inr (.inr (va_up f i.toNatClampNeg (some (b + v))))))))) s H1 locs1 → W p l e R s m args below meth c0 H1 locs1 cells slots Q (F0 m (pc + 1) ls rest)) : W p l e R s m args below meth c0 H locs cells slots Q (F0 m pc ls (.ref (b + v) :: .int i :: .ref (b + o) :: rest)) := by
  have hK := X.2.2.2.2.2.1.1
  have ha : (wn b n c)[o]? = some (b + o, .inl (cT, N, .inr (.inr (.inr (.inr f))))) := by rw [wn_get b c ho, hce]
  have hlt : i.toNatClampNeg < N := Nat.not_le.mp fun q => hin (Or.inr q)
  have h0 : ¬ i < 0 := fun q => hin (Or.inl q)
  obtain ⟨r', hr', cellV, g1, g2, g3, -⟩ := hw.1 v _ (show (wn b n c)[v]? = some (b + v, .inr (ci, vs)) by rw [wn_get b c hv, hcv])
  have hcls := (hK.1 ci r hc).2
  obtain ⟨kA, comp, k1, k2, k3, -⟩ := (hK.2 t0 _ ht).2
  have hcomp : comp = E.1.1 ci := Option.some.inj (k3.symm.trans hcls.1)
  subst hcomp
  obtain ⟨kC, hkC, -⟩ := hcls.2
  refine W.aast X.1 X.2.1 (hw.1 o _ ha) (fun q h => by cases h) (fun h => by cases h) k1 k2 rfl hkC ⟨h0, by show _ < (arrV _ _ _).slots.size; rw [arrV_size]; exact hlt⟩ g1 (fun q h => by rw [g3] at h; cases h) (by rw [g2]; exact hkC) (by rw [g2]; exact va_assign hcls) rfl rfl hdg fun H1 e1 z oq => ?_
  refine kk H1 _ ⟨?_, by rw [z]; exact hw.2.1, hw.2.2.put z oq (show b ≤ b + o by omega)⟩
  rw [← wn_set ho]
  refine hw.1.set (wn_D b n c) ha ?_ oq
  show H1[b + o]? = some (vp_cell _ _)
  rw [e1]
  rw [vp_cell_q, vp_cell_q, arrV_store]
  congr 2
  funext q
  by_cases hq : q = i.toNatClampNeg
  · subst hq
    simp [updV, va_up, va_rf]
  · simp [updV, va_up, hq]
theorem n_obj (X : CN E p s m args c0 cc nL own) {idx : Nat} (hlink : Cond.methodLink own idx Lib.objectInit ∈ wt) (hinst : Cond.instanceMethod Lib.objectInit ∈ wt) (hcode : Cond.code Lib.objectInit ⟨#[0xb1]⟩ 1 none ∈ wt) (hsz : ls.size = nL) {a : Nat} (hdg : decode cc pc = .ok (.invokespecial idx, 3)) (hf : 1 ≤ R.frames) (hlo : (rest.map fun v => v.category).sum + 12 ≤ R.locals) (kk : W p l e R s m args below meth c0 H locs cells slots Q (F0 m (pc + 3) ls rest)) : W p l e R s m args below meth c0 H locs cells slots Q (F0 m pc ls (.ref a :: rest)) :=
  W.objInit X.1 X.2.1 X.2.2.2.1 (X.2.2.2.2.1 _ hlink) (X.2.2.2.2.1 _ hinst) (X.2.2.2.2.1 _ hcode) rfl (by show ls.size = _; rw [X.2.2.1]; exact hsz) rfl hdg hf (by show 2 * 0 + _ + 12 ≤ _; omega) kk
def NQ (E : EE) (b n K : Nat) (C0 : Nat → va_E) (o : Nat) (c : Nat → va_E) : Array Value → State → Outcome → State → Prop := va_Qv (fun (u : Nat → va_E) => (∀ k, o ≤ k → k < o + K → u k = C0 k) ∧ ∀ k, k < o → u k = c k) (fun u t => PN E b (o + K) u t) (AA b)
variable {y : MethodName} {bytes : ByteArray} {maxL index nA mc ms : Nat} {rm : Room} {As : List Value} {st : List Value}
theorem kN {C0 : Nat → va_E} {o K : Nat} {a : Array Value} (hr : va_Run p l e R s m args below meth c0 H locs cells slots mc ms (F0 m pc ls st) rest (NQ E b n K C0 o c a) (AA b)) (hw : WN E b n c s H locs) (kk : ∀ (u : Nat → va_E) (H1 : Heap) (locs1 : List Loc), (∀ k, o ≤ k → k < o + K → u k = C0 k) → (∀ k, k < o → u k = c k) → WN E b (o + K) u s H1 locs1 → W p l e R s m args below meth c0 H1 locs1 (cells + mc) (slots + ms) Q (F0 m (pc + 3) ls rest)) : W p l e R s m args below meth c0 H locs cells slots Q (F0 m pc ls st) := by
  refine va_callv hr hw.2.2 (fun q _ h => h) (fun q h => h) (fun u t H1 locs1 ht hvm hp hB hz hk hS => ?_)
  exact kk u H1 locs1 hp.1 hp.2 ⟨by rw [← ht]; exact hB.1, by rw [← ht]; exact hB.2.1, hS⟩
abbrev RmN (R rm : Room) (maxL mc ms : Nat) : Prop := rm.frames + 1 ≤ R.frames ∧ 8 + (maxL + 11) + rm.locals ≤ R.locals ∧ rm.cells = mc ∧ rm.slots = ms
/-- a constructor of a class with a constructor that isn't private -/
theorem nI_ {C : String} {C0 : Nat → va_E} {o K : Nat} (X : CN E p s m args c0 cc nL own) (hw : WN E b n c s H locs) (hM : Met l y (.code y bytes maxL none :: wt) rm (va_Pc (.ref (b + o) :: As) (PN E b n c)) (NQ E b n K C0 o c) mc ms (AA b)) (hl : Cond.methodLink own index y ∈ wt) (hi : Cond.instanceMethod y ∈ wt) (hini : Cond.initialized C ∈ wt) (hcd : Cond.code y bytes maxL none ∈ wt) (hy1 : y.name = "<init>") (hd : Hd y C nA) (hR : RmN R rm maxL mc ms) (hn : As.length = nA) (hsz : ls.size = nL) (hst : st = As.reverse ++ .ref (b + o) :: rest) (hW : (rest.map fun v => v.category).sum ≤ 8) (hdg : decode cc pc = .ok (.invokespecial index, 3)) (hcs : cells + mc ≤ R.cells ∧ slots + ms ≤ R.slots) (kk : ∀ (u : Nat → va_E) (H1 : Heap) (locs1 : List Loc), (∀ k, o ≤ k → k < o + K → u k = C0 k) → (∀ k, k < o → u k = c k) → WN E b (o + K) u s H1 locs1 → W p l e R s m args below meth c0 H1 locs1 (cells + mc) (slots + ms) Q (F0 m (pc + 3) ls rest)) : W p l e R s m args below meth c0 H locs cells slots Q (F0 m pc ls st) := by
  subst hst
  obtain ⟨hC, hd⟩ := hd
  have hts := X.2.2.2.2.1
  exact kN (va_runI (As := As) (rest := rest) ⟨X.1, X.2.1, X.2.2.1, X.2.2.2.1, hts⟩ hM (cwI nA hts (gw (Ts := wt) hcd) rfl hR.2.2.1 hR.2.2.2 (by rw [hC]; exact hts _ hini) (hts _ hl) (hts _ hi) hy1 hd ⟨hR.1, hR.2.1⟩) ⟨blindN _, fun U hU hWm => ⟨rfl, by rw [hU]; exact hw.1, by rw [hU]; exact hw.2.1, X.2.2.2.2.2.warm hWm⟩⟩ rfl hn hsz rfl (lv_room hW) hdg hcs) hw kk
/-- a nest mate's private constructor -/
theorem nN_ {C host : String} {C0 : Nat → va_E} {o K : Nat} (X : CN E p s m args c0 cc nL own) (hw : WN E b n c s H locs) (hM : Met l y (.code y bytes maxL none :: wt) rm (va_Pc (.ref (b + o) :: As) (PN E b n c)) (NQ E b n K C0 o c) mc ms (AA b)) (hl : (own, index, y, host) ∈ nestI) (hi : Cond.instanceMethod y ∈ wt) (hini : Cond.initialized C ∈ wt) (hcd : Cond.code y bytes maxL none ∈ wt) (hy1 : y.name = "<init>") (hd : Hd y C nA) (hR : RmN R rm maxL mc ms) (hn : As.length = nA) (hsz : ls.size = nL) (hst : st = As.reverse ++ .ref (b + o) :: rest) (hW : (rest.map fun v => v.category).sum ≤ 8) (hdg : decode cc pc = .ok (.invokespecial index, 3)) (hcs : cells + mc ≤ R.cells ∧ slots + ms ≤ R.slots) (kk : ∀ (u : Nat → va_E) (H1 : Heap) (locs1 : List Loc), (∀ k, o ≤ k → k < o + K → u k = C0 k) → (∀ k, k < o → u k = c k) → WN E b (o + K) u s H1 locs1 → W p l e R s m args below meth c0 H1 locs1 (cells + mc) (slots + ms) Q (F0 m (pc + 3) ls rest)) : W p l e R s m args below meth c0 H locs cells slots Q (F0 m pc ls st) := by
  subst hst
  obtain ⟨hC, hd⟩ := hd
  have hts := X.2.2.2.2.1
  exact kN (va_runIN (As := As) (rest := rest) (host := host) ⟨X.1, X.2.1, X.2.2.1, X.2.2.2.1, hts⟩ hM ⟨va_cnB nA hts (gw (Ts := wt) hcd) rfl hR.2.2.1 hR.2.2.2 (X.2.2.2.2.2.2.1 _ hl) (by rw [hC]; exact hts _ hini) hd ⟨hR.1, hR.2.1⟩, hy1, hts _ hi⟩ ⟨blindN _, fun U hU hWm => ⟨rfl, by rw [hU]; exact hw.1, by rw [hU]; exact hw.2.1, X.2.2.2.2.2.warm hWm⟩⟩ rfl hn hsz rfl (lv_room hW) hdg hcs) hw kk
/-- the end of a constructor -/
theorem nE {C0 : Nat → va_E} {o K : Nat} {c1 : Nat → va_E} {av : Array Value} (X : CN E p s m args c0 cc nL own) (hw : WN E b (o + K) c1 s H locs) (h1 : ∀ k, o ≤ k → k < o + K → c1 k = C0 k) (h2 : ∀ k, k < o → c1 k = c k) (hr : meth.sig.returnType = none) (hlocks : meth.locks = false) (hdg : decode cc pc = .ok (.return_, 1)) : W p l e R s m args below meth c0 H locs cells slots (MQ below (NQ E b n K C0 o c) args s cells slots (AA b)) (F0 m pc ls []) :=
  W.vret X.1 X.2.1 hr (fun t ht hW => ⟨⟨c1, rfl, ⟨h1, h2⟩, by rw [ht]; exact hw.1, by rw [ht]; exact hw.2.1, X.2.2.2.2.2.warm hW⟩, hw.2.2.F ht⟩) hw.2.2.2.2 hdg hlocks
end NROW
