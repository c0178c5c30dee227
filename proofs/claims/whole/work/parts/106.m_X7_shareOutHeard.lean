abbrev rmX7_shareOutHeard : Room := { frames := 2, cells := 0, slots := 0, locals := 46 }
theorem hd_X7_shareOutHeard : Hd yX7_shareOutHeard RX7 0 := by decide +kernel
def gX7_shareOutHeard_15  (k2 : Int32 → Mem → Option (Mem)) : Nat → Int32 → Int32 → Mem → Option (Mem)
  | 0, _, _, _ => none
  | n + 1, x1, x2, M => if (M 191 3) ≤ x2 then ((some (x1 + 1)).bind fun z3 => k2 z3 M) else ((ldA 4 (M 183) x1).bind fun v4 => (gX1_layersOf 9 x2 v4 M).bind fun u6 => (stA 20 M 196 ((x1 * 5) + x2) u6).bind fun M8 => (some (x2 + 1)).bind fun z10 => (gX7_shareOutHeard_15 k2 n) x1 z10 M8)
def gX7_shareOutHeard_2   : Nat → Int32 → Mem → Option (Mem)
  | 0, _, _ => none
  | n + 1, x1, M => if (M 181 4) ≤ x1 then (some (M)) else (gX7_shareOutHeard_15 (gX7_shareOutHeard_2 n) FU x1 0 M)
def gX7_shareOutHeard (M : Mem) : Option (Mem) := gX7_shareOutHeard_2 FU 0 M
set_option maxHeartbeats 4000000 in
set_option maxRecDepth 100000 in
theorem tX7_shareOutHeard_15 {p : Program} {l : Launch} {e : Env} {s : State} {m : MethodId} {args : Array Value} {below : List Frame} {meth : Method} {c : Code} {E : EE} {b : Nat} {TC : Int64} {MM : Mem} {TM : Int64} {res : Mem} (X : CX E p s m args c cX7_shareOutHeard 3 RX7) (hr : meth.sig.returnType = none) (hlk : meth.locks = false)   {k2 : Int32 → Mem → Option (Mem)} (hk2 : ∀ (x1 : Int32) (M : Mem), k2 x1 M = some res → ∀ (H : Heap) (locs : List Loc) (ls : Array Slot), WW E b M TC MM TM s H locs → lv_has ls 3 [(0, .ref (b + 0)), (1, .int x1)] → W p l e rmX7_shareOutHeard s m args below meth c H locs 0 0 (MQ below (va_Qv (fun (_ : Unit) => True) (fun _ t => PW E b res TC MM TM t) (AA b)) args s 0 0 (AA b)) (F0 m 2 ls [])) : ∀ (n : Nat) (x1 : Int32) (x2 : Int32) (M : Mem), gX7_shareOutHeard_15 k2 n x1 x2 M = some res → ∀ (H : Heap) (locs : List Loc) (ls : Array Slot), WW E b M TC MM TM s H locs → lv_has ls 3 [(0, .ref (b + 0)), (1, .int x1), (2, .int x2)] → W p l e rmX7_shareOutHeard s m args below meth c H locs 0 0 (MQ below (va_Qv (fun (_ : Unit) => True) (fun _ t => PW E b res TC MM TM t) (AA b)) args s 0 0 (AA b)) (F0 m 15 ls []) := by
  have hx := X.1
  have hb := X.2.1
  intro n
  induction n with
  | zero =>
    intro x1 x2 M hf
    cases (show (none : Option (Mem)) = some res from hf)
  | succ n ih =>
    intro x1 x2 M hf H locs ls hw hl
    rw [gX7_shareOutHeard_15] at hf
    refine lv_iload_n hx hb dX7_shareOutHeard_15 rfl (lv_at hl 2 rfl) ?_
    refine lv_aload_n hx hb dX7_shareOutHeard_16 rfl (lv_at hl 0 rfl) ?_
    refine gt_X7 X hw 7 kk_0 rfl (by decide) mw_285 rfl dX7_shareOutHeard_17 ?_
    refine gt_X6 X hw 3 kk_191 rfl (by decide) mw_114 rfl dX7_shareOutHeard_20 ?_
    refine lv_icmp_ge (tgt := 62) hx hb dX7_shareOutHeard_23 (by decide) (fun c2 => ?_) (fun c2 => ?_)
    · replace hf := (if_pos c2).symm.trans hf
      obtain ⟨z3, ez3⟩ : ∃ y : Int32, y = x1 + 1 := ⟨_, rfl⟩
      replace hf := nmb hf ez3
      refine lv_iinc (v := z3) (lv' := [(1, .int z3), (0, .ref (b + 0)), (2, .int x2)]) hx hb dX7_shareOutHeard_62 hl (k := 1) rfl (by rw [ez3]; rfl) (by decide) rfl (fun ls hl => ?_)
      refine lv_goto (tgt := 2) hx hb dX7_shareOutHeard_65 (by decide) ?_
      exact hk2 z3 M hf H locs ls hw (lv_sub hl [1, 0] rfl)
    · replace hf := (if_neg c2).symm.trans hf
      refine lv_aload_n hx hb dX7_shareOutHeard_26 rfl (lv_at hl 0 rfl) ?_
      refine gt_X7 X hw 9 kk_0 rfl (by decide) mw_287 rfl dX7_shareOutHeard_27 ?_
      refine lv_iload_n hx hb dX7_shareOutHeard_30 rfl (lv_at hl 1 rfl) ?_
      refine lv_iconst (v := 5) hx hb dX7_shareOutHeard_31 (by decide) ?_
      refine lv_imul hx hb dX7_shareOutHeard_32 ?_
      refine lv_iload_n hx hb dX7_shareOutHeard_33 rfl (lv_at hl 2 rfl) ?_
      refine lv_iadd hx hb dX7_shareOutHeard_34 ?_
      refine lv_aload_n hx hb dX7_shareOutHeard_35 rfl (lv_at hl 0 rfl) ?_
      refine gt_X7 X hw 2 kk_0 rfl (by decide) mw_280 rfl dX7_shareOutHeard_36 ?_
      refine gt_X5 X hw 0 kk_8 rfl (by decide) mw_205 rfl dX7_shareOutHeard_39 ?_
      refine lv_iload_n hx hb dX7_shareOutHeard_42 rfl (lv_at hl 2 rfl) ?_
      refine lv_aload_n hx hb dX7_shareOutHeard_43 rfl (lv_at hl 0 rfl) ?_
      refine gt_X7 X hw 5 kk_0 rfl (by decide) mw_283 rfl dX7_shareOutHeard_44 ?_
      refine gt_X0 X hw 1 kk_181 rfl (by decide) mw_226 rfl dX7_shareOutHeard_47 ?_
      refine lv_iload_n hx hb dX7_shareOutHeard_50 rfl (lv_at hl 1 rfl) ?_
      obtain ⟨v4, q5, hf⟩ := ob hf
      refine aldC X hw kdv_183 q5 dX7_shareOutHeard_51 ?_
      obtain ⟨u6, q7, hf⟩ := ob hf
      refine cVi (As := [.int x2, .int v4]) X hw (ctX1_layersOf l E b kk_9 q7) ⟨mw_408, mw_409, mw_410, mw_57, mw_411⟩ hd_X1_layersOf ⟨Nat.le_of_ble_eq_true rfl, Nat.le_of_ble_eq_true rfl, rfl, rfl⟩ (kdk kk_9 (by decide)) (ce_X1 E _ _ _ _ kk_9) (show vwCl[1]? = some (RX1, TX1, 6) from rfl) rfl hl.1 rfl (Nat.le_of_ble_eq_true rfl) dX7_shareOutHeard_52 (fun H locs hw => ?_)
      obtain ⟨M8, q9, hf⟩ := ob hf
      refine astC X hw kdv_196 q9 dX7_shareOutHeard_55 (fun H locs hw => ?_)
      obtain ⟨z10, ez10⟩ : ∃ y : Int32, y = x2 + 1 := ⟨_, rfl⟩
      replace hf := nmb hf ez10
      refine lv_iinc (v := z10) (lv' := [(2, .int z10), (0, .ref (b + 0)), (1, .int x1)]) hx hb dX7_shareOutHeard_56 hl (k := 2) rfl (by rw [ez10]; rfl) (by decide) rfl (fun ls hl => ?_)
      refine lv_goto (tgt := 15) hx hb dX7_shareOutHeard_59 (by decide) ?_
      exact ih x1 z10 M8 hf H locs ls hw (lv_sub hl [1, 2, 0] rfl)
set_option maxHeartbeats 4000000 in
set_option maxRecDepth 100000 in
theorem tX7_shareOutHeard_2 {p : Program} {l : Launch} {e : Env} {s : State} {m : MethodId} {args : Array Value} {below : List Frame} {meth : Method} {c : Code} {E : EE} {b : Nat} {TC : Int64} {MM : Mem} {TM : Int64} {res : Mem} (X : CX E p s m args c cX7_shareOutHeard 3 RX7) (hr : meth.sig.returnType = none) (hlk : meth.locks = false)    : ∀ (n : Nat) (x1 : Int32) (M : Mem), gX7_shareOutHeard_2 n x1 M = some res → ∀ (H : Heap) (locs : List Loc) (ls : Array Slot), WW E b M TC MM TM s H locs → lv_has ls 3 [(0, .ref (b + 0)), (1, .int x1)] → W p l e rmX7_shareOutHeard s m args below meth c H locs 0 0 (MQ below (va_Qv (fun (_ : Unit) => True) (fun _ t => PW E b res TC MM TM t) (AA b)) args s 0 0 (AA b)) (F0 m 2 ls []) := by
  have hx := X.1
  have hb := X.2.1
  intro n
  induction n with
  | zero =>
    intro x1 M hf
    cases (show (none : Option (Mem)) = some res from hf)
  | succ n ih =>
    intro x1 M hf H locs ls hw hl
    rw [gX7_shareOutHeard_2] at hf
    refine lv_iload_n hx hb dX7_shareOutHeard_2 rfl (lv_at hl 1 rfl) ?_
    refine lv_aload_n hx hb dX7_shareOutHeard_3 rfl (lv_at hl 0 rfl) ?_
    refine gt_X7 X hw 5 kk_0 rfl (by decide) mw_283 rfl dX7_shareOutHeard_4 ?_
    refine gt_X0 X hw 4 kk_181 rfl (by decide) mw_232 rfl dX7_shareOutHeard_7 ?_
    refine lv_icmp_ge (tgt := 68) hx hb dX7_shareOutHeard_10 (by decide) (fun c1 => ?_) (fun c1 => ?_)
    · replace hf := (if_pos c1).symm.trans hf
      replace hf := Option.some.inj hf
      subst hf
      exact eV X hw hr hlk dX7_shareOutHeard_68
    · replace hf := (if_neg c1).symm.trans hf
      refine lv_iconst (v := 0) hx hb dX7_shareOutHeard_13 (by decide) ?_
      refine lv_istore_n (lv' := [(2, .int 0), (0, .ref (b + 0)), (1, .int x1)]) hx hb dX7_shareOutHeard_14 rfl hl (by decide) rfl (fun ls hl => ?_)
      exact tX7_shareOutHeard_15 X hr hlk ih FU x1 0 M hf H locs ls hw (lv_sub hl [1, 2, 0] rfl)
set_option maxHeartbeats 4000000 in
set_option maxRecDepth 100000 in
theorem ctX7_shareOutHeard (l : Launch) (E : EE) (b : Nat) {TC : Int64} {MM : Mem} {TM : Int64} {M : Mem} {res : Mem}  (hf : gX7_shareOutHeard M = some res) : MetV l E b yX7_shareOutHeard (.code yX7_shareOutHeard cX7_shareOutHeard 3 none) rmX7_shareOutHeard [.ref (b + 0)] M TC MM TM res TC MM TM := by
  refine Met.ofW (cc := cX7_shareOutHeard) (maxL := 3) (ret := none) (by decide) rfl ?_
  intro p e s m args below meth c s₁ B hml hv
  obtain ⟨rfl, hP, hK⟩ := hv
  have hx := B.exec
  have hb := B.bytes
  have X : CX E p s m _ c cX7_shareOutHeard 3 RX7 := ⟨hx, hb, hml, findClass_of_methodNamed B.named, fun w h => atoms_spec (ws := _ :: wt) B.pre w (List.mem_cons_of_mem _ h), hK⟩
  have hr := B.returns
  have hlk := B.notSynchronized
  have hw : WW E b M TC MM TM s s.heap [] := ⟨hP, va_S.rf⟩
  have hl := lv_entry ([.ref (b + 0)]) (n := 3) (Nat.le_of_ble_eq_true rfl)
  rw [lg_entry_eq]
  generalize (lg_sl ([.ref (b + 0)]) ++ List.replicate (3 - (lg_sl ([.ref (b + 0)])).length) Slot.unset).toArray = ls at hl ⊢
  have hl : lv_has ls 3 [(0, .ref (b + 0))] := hl
  obtain ⟨H, hH⟩ : ∃ H, H = s.heap := ⟨_, rfl⟩
  obtain ⟨locs, hL⟩ : ∃ L : List Loc, L = [] := ⟨_, rfl⟩
  rw [← hH, ← hL] at hw
  suffices hg : W p l e rmX7_shareOutHeard s m _ below meth c H locs 0 0 (MQ below (va_Qv (fun (_ : Unit) => True) (fun _ t => PW E b res TC MM TM t) (AA b)) _ s 0 0 (AA b)) (F0 m 0 ls []) by rw [hH, hL] at hg; exact hg
  clear hH hL
  rw [gX7_shareOutHeard] at hf
  refine lv_iconst (v := 0) hx hb dX7_shareOutHeard_0 (by decide) ?_
  refine lv_istore_n (lv' := [(1, .int 0), (0, .ref (b + 0))]) hx hb dX7_shareOutHeard_1 rfl hl (by decide) rfl (fun ls hl => ?_)
  exact tX7_shareOutHeard_2 X hr hlk FU 0 M hf H locs ls hw (lv_sub hl [1, 0] rfl)

abbrev rmX7_sets : Room := { frames := 3, cells := 0, slots := 0, locals := 68 }
theorem hd_X7_sets : Hd yX7_sets RX7 1 := by decide +kernel
def gX7_sets_108   (x4 : Int32) (M : Mem) : Option (Int32 × Mem) := some (x4, M)
def gX7_sets_127   (y0 : Int32) (M : Mem) : Option (Int32 × Mem) := some (y0, M)
def gX7_sets_87  (k42 : Int32 → Int32 → Int32 → Int32 → Int32 → Int32 → Int32 → Mem → Option (Int32 × Mem)) (x1 : Int32) (x2 : Int32) (x3 : Int32) (x4 : Int32) (x5 : Int32) (x6 : Int32) (x7 : Int32) (M : Mem) : Option (Int32 × Mem) := (some (x7 + 1)).bind fun z25 => k42 x1 x2 x3 x4 x5 x6 z25 M
def gX7_sets_68  (k42 : Int32 → Int32 → Int32 → Int32 → Int32 → Int32 → Int32 → Mem → Option (Int32 × Mem)) (x1 : Int32) (x2 : Int32) (x3 : Int32) (x5 : Int32) (x6 : Int32) (x7 : Int32) (y0 : Int32) (M : Mem) : Option (Int32 × Mem) := (some (x5 &&& x7)).bind fun z27 => (some (x6 ||| x7)).bind fun z28 => (some (x3 + 1)).bind fun z29 => gX7_sets_87 k42 x1 x2 z29 y0 z27 z28 x7 M
def gX7_sets_42   : Nat → Int32 → Int32 → Int32 → Int32 → Int32 → Int32 → Int32 → Mem → Option (Int32 × Mem)
  | 0, _, _, _, _, _, _, _, _ => none
  | n + 1, x1, x2, x3, x4, x5, x6, x7, M => if x2 < x7 then (if x1 = 0 then (some (x3, M)) else (if x3 = 0 then (gX7_sets_108 x4 M) else (if x1 = 1 then (gX7_sets_108 x4 M) else (if x1 = 2 then (gX7_sets_127 x5 M) else (gX7_sets_127 (x2 &&& (x6 ^^^ ((-1)))) M))))) else ((gX7_allHeardIsSo x7 M).bind fun u22 => if u22 = 0 then (gX7_sets_87 (gX7_sets_42 n) x1 x2 x3 x4 x5 x6 x7 M) else (if x3 = 0 then (gX7_sets_68 (gX7_sets_42 n) x1 x2 x3 x5 x6 x7 x7 M) else (gX7_sets_68 (gX7_sets_42 n) x1 x2 x3 x5 x6 x7 x4 M)))
def gX7_sets (x1 : Int32) (M : Mem) : Option (Int32 × Mem) := (gX7_within x1 0 3).bind fun u11 => if u11 = 0 then (some ((-1), M)) else ((gX7_shareOutHeard M).bind fun u14 => (some ((1 <<< ((u14 191 3) &&& 31)) - 1)).bind fun z16 => gX7_sets_42 FU x1 z16 0 ((-9)) z16 0 0 u14)
set_option maxHeartbeats 4000000 in
set_option maxRecDepth 100000 in
theorem tX7_sets_108 {p : Program} {l : Launch} {e : Env} {s : State} {m : MethodId} {args : Array Value} {below : List Frame} {meth : Method} {c : Code} {E : EE} {b : Nat} {TC : Int64} {MM : Mem} {TM : Int64} {res : Int32 × Mem} (X : CX E p s m args c cX7_sets 8 RX7) (hr : meth.sig.returnType = (some .int)) (hlk : meth.locks = false)    : ∀ (x4 : Int32) (M : Mem), gX7_sets_108 x4 M = some res → ∀ (H : Heap) (locs : List Loc) (ls : Array Slot), WW E b M TC MM TM s H locs → lv_has ls 8 [(4, .int x4)] → W p l e rmX7_sets s m args below meth c H locs 0 0 (MQ below (va_Qi (fun x (_ : Unit) => x = res.1) (fun _ t => PW E b res.2 TC MM TM t) (AA b)) args s 0 0 (AA b)) (F0 m 108 ls []) := by
  have hx := X.1
  have hb := X.2.1
  intro x4 M hf H locs ls hw hl
  rw [gX7_sets_108] at hf
  refine lv_iload hx hb dX7_sets_108 (lv_at hl 0 rfl) ?_
  replace hf := Option.some.inj hf
  subst hf
  exact eI X hw hr hlk dX7_sets_110
set_option maxHeartbeats 4000000 in
set_option maxRecDepth 100000 in
theorem tX7_sets_127 {p : Program} {l : Launch} {e : Env} {s : State} {m : MethodId} {args : Array Value} {below : List Frame} {meth : Method} {c : Code} {E : EE} {b : Nat} {TC : Int64} {MM : Mem} {TM : Int64} {res : Int32 × Mem} (X : CX E p s m args c cX7_sets 8 RX7) (hr : meth.sig.returnType = (some .int)) (hlk : meth.locks = false)    : ∀ (y0 : Int32) (M : Mem), gX7_sets_127 y0 M = some res → ∀ (H : Heap) (locs : List Loc) (ls : Array Slot), WW E b M TC MM TM s H locs → lv_has ls 8 [] → W p l e rmX7_sets s m args below meth c H locs 0 0 (MQ below (va_Qi (fun x (_ : Unit) => x = res.1) (fun _ t => PW E b res.2 TC MM TM t) (AA b)) args s 0 0 (AA b)) (F0 m 127 ls [.int y0]) := by
  have hx := X.1
  have hb := X.2.1
  intro y0 M hf H locs ls hw hl
  rw [gX7_sets_127] at hf
  replace hf := Option.some.inj hf
  subst hf
  exact eI X hw hr hlk dX7_sets_127
set_option maxHeartbeats 4000000 in
set_option maxRecDepth 100000 in
theorem tX7_sets_87 {p : Program} {l : Launch} {e : Env} {s : State} {m : MethodId} {args : Array Value} {below : List Frame} {meth : Method} {c : Code} {E : EE} {b : Nat} {TC : Int64} {MM : Mem} {TM : Int64} {res : Int32 × Mem} (X : CX E p s m args c cX7_sets 8 RX7) (hr : meth.sig.returnType = (some .int)) (hlk : meth.locks = false)   {k42 : Int32 → Int32 → Int32 → Int32 → Int32 → Int32 → Int32 → Mem → Option (Int32 × Mem)} (hk42 : ∀ (x1 : Int32) (x2 : Int32) (x3 : Int32) (x4 : Int32) (x5 : Int32) (x6 : Int32) (x7 : Int32) (M : Mem), k42 x1 x2 x3 x4 x5 x6 x7 M = some res → ∀ (H : Heap) (locs : List Loc) (ls : Array Slot), WW E b M TC MM TM s H locs → lv_has ls 8 [(0, .ref (b + 0)), (1, .int x1), (2, .int x2), (3, .int x3), (4, .int x4), (5, .int x5), (6, .int x6), (7, .int x7)] → W p l e rmX7_sets s m args below meth c H locs 0 0 (MQ below (va_Qi (fun x (_ : Unit) => x = res.1) (fun _ t => PW E b res.2 TC MM TM t) (AA b)) args s 0 0 (AA b)) (F0 m 42 ls [])) : ∀ (x1 : Int32) (x2 : Int32) (x3 : Int32) (x4 : Int32) (x5 : Int32) (x6 : Int32) (x7 : Int32) (M : Mem), gX7_sets_87 k42 x1 x2 x3 x4 x5 x6 x7 M = some res → ∀ (H : Heap) (locs : List Loc) (ls : Array Slot), WW E b M TC MM TM s H locs → lv_has ls 8 [(0, .ref (b + 0)), (1, .int x1), (2, .int x2), (3, .int x3), (4, .int x4), (5, .int x5), (6, .int x6), (7, .int x7)] → W p l e rmX7_sets s m args below meth c H locs 0 0 (MQ below (va_Qi (fun x (_ : Unit) => x = res.1) (fun _ t => PW E b res.2 TC MM TM t) (AA b)) args s 0 0 (AA b)) (F0 m 87 ls []) := by
  have hx := X.1
  have hb := X.2.1
  intro x1 x2 x3 x4 x5 x6 x7 M hf H locs ls hw hl
  rw [gX7_sets_87] at hf
  obtain ⟨z25, ez25⟩ : ∃ y : Int32, y = x7 + 1 := ⟨_, rfl⟩
  replace hf := nmb hf ez25
  refine lv_iinc (v := z25) (lv' := [(7, .int z25), (0, .ref (b + 0)), (1, .int x1), (2, .int x2), (3, .int x3), (4, .int x4), (5, .int x5), (6, .int x6)]) hx hb dX7_sets_87 hl (k := 7) rfl (by rw [ez25]; rfl) (by decide) rfl (fun ls hl => ?_)
  refine lv_goto (tgt := 42) hx hb dX7_sets_90 (by decide) ?_
  exact hk42 x1 x2 x3 x4 x5 x6 z25 M hf H locs ls hw (lv_sub hl [1, 2, 3, 4, 5, 6, 7, 0] rfl)
set_option maxHeartbeats 4000000 in
set_option maxRecDepth 100000 in
theorem tX7_sets_68 {p : Program} {l : Launch} {e : Env} {s : State} {m : MethodId} {args : Array Value} {below : List Frame} {meth : Method} {c : Code} {E : EE} {b : Nat} {TC : Int64} {MM : Mem} {TM : Int64} {res : Int32 × Mem} (X : CX E p s m args c cX7_sets 8 RX7) (hr : meth.sig.returnType = (some .int)) (hlk : meth.locks = false)   {k42 : Int32 → Int32 → Int32 → Int32 → Int32 → Int32 → Int32 → Mem → Option (Int32 × Mem)} (hk42 : ∀ (x1 : Int32) (x2 : Int32) (x3 : Int32) (x4 : Int32) (x5 : Int32) (x6 : Int32) (x7 : Int32) (M : Mem), k42 x1 x2 x3 x4 x5 x6 x7 M = some res → ∀ (H : Heap) (locs : List Loc) (ls : Array Slot), WW E b M TC MM TM s H locs → lv_has ls 8 [(0, .ref (b + 0)), (1, .int x1), (2, .int x2), (3, .int x3), (4, .int x4), (5, .int x5), (6, .int x6), (7, .int x7)] → W p l e rmX7_sets s m args below meth c H locs 0 0 (MQ below (va_Qi (fun x (_ : Unit) => x = res.1) (fun _ t => PW E b res.2 TC MM TM t) (AA b)) args s 0 0 (AA b)) (F0 m 42 ls [])) : ∀ (x1 : Int32) (x2 : Int32) (x3 : Int32) (x5 : Int32) (x6 : Int32) (x7 : Int32) (y0 : Int32) (M : Mem), gX7_sets_68 k42 x1 x2 x3 x5 x6 x7 y0 M = some res → ∀ (H : Heap) (locs : List Loc) (ls : Array Slot), WW E b M TC MM TM s H locs → lv_has ls 8 [(0, .ref (b + 0)), (1, .int x1), (2, .int x2), (3, .int x3), (5, .int x5), (6, .int x6), (7, .int x7)] → W p l e rmX7_sets s m args below meth c H locs 0 0 (MQ below (va_Qi (fun x (_ : Unit) => x = res.1) (fun _ t => PW E b res.2 TC MM TM t) (AA b)) args s 0 0 (AA b)) (F0 m 68 ls [.int y0]) := by
  have hx := X.1
  have hb := X.2.1
  intro x1 x2 x3 x5 x6 x7 y0 M hf H locs ls hw hl
  rw [gX7_sets_68] at hf
  refine lv_istore (lv' := [(4, .int y0), (0, .ref (b + 0)), (1, .int x1), (2, .int x2), (3, .int x3), (5, .int x5), (6, .int x6), (7, .int x7)]) hx hb dX7_sets_68 hl (by decide) rfl (fun ls hl => ?_)
  refine lv_iload hx hb dX7_sets_70 (lv_at hl 5 rfl) ?_
  refine lv_iload hx hb dX7_sets_72 (lv_at hl 7 rfl) ?_
  refine lv_iand hx hb dX7_sets_74 ?_
  refine lv_topi (fun z27 ez27 => ?_)
  replace hf := nmb hf ez27
  refine lv_istore (lv' := [(5, .int z27), (4, .int y0), (0, .ref (b + 0)), (1, .int x1), (2, .int x2), (3, .int x3), (6, .int x6), (7, .int x7)]) hx hb dX7_sets_75 hl (by decide) rfl (fun ls hl => ?_)
  refine lv_iload hx hb dX7_sets_77 (lv_at hl 6 rfl) ?_
  refine lv_iload hx hb dX7_sets_79 (lv_at hl 7 rfl) ?_
  refine lv_ior hx hb dX7_sets_81 ?_
  refine lv_topi (fun z28 ez28 => ?_)
  replace hf := nmb hf ez28
  refine lv_istore (lv' := [(6, .int z28), (5, .int z27), (4, .int y0), (0, .ref (b + 0)), (1, .int x1), (2, .int x2), (3, .int x3), (7, .int x7)]) hx hb dX7_sets_82 hl (by decide) rfl (fun ls hl => ?_)
  obtain ⟨z29, ez29⟩ : ∃ y : Int32, y = x3 + 1 := ⟨_, rfl⟩
  replace hf := nmb hf ez29
  refine lv_iinc (v := z29) (lv' := [(3, .int z29), (6, .int z28), (5, .int z27), (4, .int y0), (0, .ref (b + 0)), (1, .int x1), (2, .int x2), (7, .int x7)]) hx hb dX7_sets_84 hl (k := 6) rfl (by rw [ez29]; rfl) (by decide) rfl (fun ls hl => ?_)
  exact tX7_sets_87 X hr hlk hk42 x1 x2 z29 y0 z27 z28 x7 M hf H locs ls hw (lv_sub hl [4, 5, 6, 0, 3, 2, 1, 7] rfl)
set_option maxHeartbeats 4000000 in
set_option maxRecDepth 100000 in
theorem tX7_sets_42 {p : Program} {l : Launch} {e : Env} {s : State} {m : MethodId} {args : Array Value} {below : List Frame} {meth : Method} {c : Code} {E : EE} {b : Nat} {TC : Int64} {MM : Mem} {TM : Int64} {res : Int32 × Mem} (X : CX E p s m args c cX7_sets 8 RX7) (hr : meth.sig.returnType = (some .int)) (hlk : meth.locks = false)    : ∀ (n : Nat) (x1 : Int32) (x2 : Int32) (x3 : Int32) (x4 : Int32) (x5 : Int32) (x6 : Int32) (x7 : Int32) (M : Mem), gX7_sets_42 n x1 x2 x3 x4 x5 x6 x7 M = some res → ∀ (H : Heap) (locs : List Loc) (ls : Array Slot), WW E b M TC MM TM s H locs → lv_has ls 8 [(0, .ref (b + 0)), (1, .int x1), (2, .int x2), (3, .int x3), (4, .int x4), (5, .int x5), (6, .int x6), (7, .int x7)] → W p l e rmX7_sets s m args below meth c H locs 0 0 (MQ below (va_Qi (fun x (_ : Unit) => x = res.1) (fun _ t => PW E b res.2 TC MM TM t) (AA b)) args s 0 0 (AA b)) (F0 m 42 ls []) := by
  have hx := X.1
  have hb := X.2.1
  intro n
  induction n with
  | zero =>
    intro x1 x2 x3 x4 x5 x6 x7 M hf
    cases (show (none : Option (Int32 × Mem)) = some res from hf)
  | succ n ih =>
    intro x1 x2 x3 x4 x5 x6 x7 M hf H locs ls hw hl
    rw [gX7_sets_42] at hf
    refine lv_iload hx hb dX7_sets_42 (lv_at hl 7 rfl) ?_
    refine lv_iload_n hx hb dX7_sets_44 rfl (lv_at hl 2 rfl) ?_
    refine lv_icmp_gt (tgt := 93) hx hb dX7_sets_45 (by decide) (fun c17 => ?_) (fun c17 => ?_)
    · replace hf := (if_pos c17).symm.trans hf
      refine lv_iload_n hx hb dX7_sets_93 rfl (lv_at hl 1 rfl) ?_
      refine lv_if_ne (tgt := 99) hx hb dX7_sets_94 (by decide) (fun c18 => ?_) (fun c18 => ?_)
      · replace hf := (if_neg c18).symm.trans hf
        refine lv_iload_n hx hb dX7_sets_99 rfl (lv_at hl 3 rfl) ?_
        refine lv_if_eq (tgt := 108) hx hb dX7_sets_100 (by decide) (fun c19 => ?_) (fun c19 => ?_)
        · replace hf := (if_pos c19).symm.trans hf
          exact tX7_sets_108 X hr hlk x4 M hf H locs ls hw (lv_sub hl [4] rfl)
        · replace hf := (if_neg c19).symm.trans hf
          refine lv_iload_n hx hb dX7_sets_103 rfl (lv_at hl 1 rfl) ?_
          refine lv_iconst (v := 1) hx hb dX7_sets_104 (by decide) ?_
          refine lv_icmp_ne (tgt := 111) hx hb dX7_sets_105 (by decide) (fun c20 => ?_) (fun c20 => ?_)
          · replace hf := (if_neg c20).symm.trans hf
            refine lv_iload_n hx hb dX7_sets_111 rfl (lv_at hl 1 rfl) ?_
            refine lv_iconst (v := 2) hx hb dX7_sets_112 (by decide) ?_
            refine lv_icmp_ne (tgt := 121) hx hb dX7_sets_113 (by decide) (fun c21 => ?_) (fun c21 => ?_)
            · replace hf := (if_neg c21).symm.trans hf
              refine lv_iload_n hx hb dX7_sets_121 rfl (lv_at hl 2 rfl) ?_
              refine lv_iload hx hb dX7_sets_122 (lv_at hl 6 rfl) ?_
              refine lv_iconst (v := (-1)) hx hb dX7_sets_124 (by decide) ?_
              refine lv_ixor hx hb dX7_sets_125 ?_
              refine lv_iand hx hb dX7_sets_126 ?_
              exact tX7_sets_127 X hr hlk (x2 &&& (x6 ^^^ ((-1)))) M hf H locs ls hw (lv_sub hl [] rfl)
            · replace hf := (if_pos c21).symm.trans hf
              refine lv_iload hx hb dX7_sets_116 (lv_at hl 5 rfl) ?_
              refine lv_goto (tgt := 127) hx hb dX7_sets_118 (by decide) ?_
              exact tX7_sets_127 X hr hlk x5 M hf H locs ls hw (lv_sub hl [] rfl)
          · replace hf := (if_pos c20).symm.trans hf
            exact tX7_sets_108 X hr hlk x4 M hf H locs ls hw (lv_sub hl [4] rfl)
      · replace hf := (if_pos c18).symm.trans hf
        refine lv_iload_n hx hb dX7_sets_97 rfl (lv_at hl 3 rfl) ?_
        replace hf := Option.some.inj hf
        subst hf
        exact eI X hw hr hlk dX7_sets_98
    · replace hf := (if_neg c17).symm.trans hf
      refine lv_aload_n hx hb dX7_sets_48 rfl (lv_at hl 0 rfl) ?_
      refine lv_iload hx hb dX7_sets_49 (lv_at hl 7 rfl) ?_
      obtain ⟨u22, q23, hf⟩ := ob hf
      refine cVi (As := [.int x7]) X hw (ctX7_allHeardIsSo l E b  q23) ⟨mw_649, mw_651, mw_23, mw_52, mw_652⟩ hd_X7_allHeardIsSo ⟨Nat.le_of_ble_eq_true rfl, Nat.le_of_ble_eq_true rfl, rfl, rfl⟩ (kdk kk_0 (by decide)) (ce_X7 E _ _ _ _ kk_0) (show vwCl[7]? = some (RX7, TX7, 11) from rfl) rfl hl.1 rfl (Nat.le_of_ble_eq_true rfl) dX7_sets_51 (fun H locs hw => ?_)
      refine lv_if_eq (tgt := 87) hx hb dX7_sets_54 (by decide) (fun c24 => ?_) (fun c24 => ?_)
      · replace hf := (if_pos c24).symm.trans hf
        exact tX7_sets_87 X hr hlk ih x1 x2 x3 x4 x5 x6 x7 M hf H locs ls hw (lv_sub hl [0, 1, 2, 3, 4, 5, 6, 7] rfl)
      · replace hf := (if_neg c24).symm.trans hf
        refine lv_iload_n hx hb dX7_sets_57 rfl (lv_at hl 3 rfl) ?_
        refine lv_if_ne (tgt := 66) hx hb dX7_sets_58 (by decide) (fun c26 => ?_) (fun c26 => ?_)
        · replace hf := (if_neg c26).symm.trans hf
          refine lv_iload hx hb dX7_sets_66 (lv_at hl 4 rfl) ?_
          exact tX7_sets_68 X hr hlk ih x1 x2 x3 x5 x6 x7 x4 M hf H locs ls hw (lv_sub hl [0, 1, 2, 3, 5, 6, 7] rfl)
        · replace hf := (if_pos c26).symm.trans hf
          refine lv_iload hx hb dX7_sets_61 (lv_at hl 7 rfl) ?_
          refine lv_goto (tgt := 68) hx hb dX7_sets_63 (by decide) ?_
          exact tX7_sets_68 X hr hlk ih x1 x2 x3 x5 x6 x7 x7 M hf H locs ls hw (lv_sub hl [0, 1, 2, 3, 5, 6, 7] rfl)
set_option maxHeartbeats 4000000 in
set_option maxRecDepth 100000 in
theorem ctX7_sets (l : Launch) (E : EE) (b : Nat) {TC : Int64} {MM : Mem} {TM : Int64} {x1 : Int32} {M : Mem} {res : Int32 × Mem}  (hf : gX7_sets x1 M = some res) : MetI l E b yX7_sets (.code yX7_sets cX7_sets 8 (some .int)) rmX7_sets [.ref (b + 0), .int x1] M TC MM TM res.1 res.2 TC MM TM := by
  refine Met.ofW (cc := cX7_sets) (maxL := 8) (ret := (some .int)) (by decide) rfl ?_
  intro p e s m args below meth c s₁ B hml hv
  obtain ⟨rfl, hP, hK⟩ := hv
  have hx := B.exec
  have hb := B.bytes
  have X : CX E p s m _ c cX7_sets 8 RX7 := ⟨hx, hb, hml, findClass_of_methodNamed B.named, fun w h => atoms_spec (ws := _ :: wt) B.pre w (List.mem_cons_of_mem _ h), hK⟩
  have hr := B.returns
  have hlk := B.notSynchronized
  have hw : WW E b M TC MM TM s s.heap [] := ⟨hP, va_S.rf⟩
  have hl := lv_entry ([.ref (b + 0), .int x1]) (n := 8) (Nat.le_of_ble_eq_true rfl)
  rw [lg_entry_eq]
  generalize (lg_sl ([.ref (b + 0), .int x1]) ++ List.replicate (8 - (lg_sl ([.ref (b + 0), .int x1])).length) Slot.unset).toArray = ls at hl ⊢
  have hl : lv_has ls 8 [(0, .ref (b + 0)), (1, .int x1)] := hl
  obtain ⟨H, hH⟩ : ∃ H, H = s.heap := ⟨_, rfl⟩
  obtain ⟨locs, hL⟩ : ∃ L : List Loc, L = [] := ⟨_, rfl⟩
  rw [← hH, ← hL] at hw
  suffices hg : W p l e rmX7_sets s m _ below meth c H locs 0 0 (MQ below (va_Qi (fun x (_ : Unit) => x = res.1) (fun _ t => PW E b res.2 TC MM TM t) (AA b)) _ s 0 0 (AA b)) (F0 m 0 ls []) by rw [hH, hL] at hg; exact hg
  clear hH hL
  rw [gX7_sets] at hf
  refine lv_iload_n hx hb dX7_sets_0 rfl (lv_at hl 1 rfl) ?_
  refine lv_iconst (v := 0) hx hb dX7_sets_1 (by decide) ?_
  refine lv_iconst (v := 3) hx hb dX7_sets_2 (by decide) ?_
  obtain ⟨u11, q12, hf⟩ := ob hf
  refine cSi (As := [.int x1, .int 0, .int 3]) X hw (ctX7_within l E b  q12) ⟨mw_316, mw_317, mw_52, mw_318⟩ hd_X7_within ⟨Nat.le_of_ble_eq_true rfl, Nat.le_of_ble_eq_true rfl, rfl, rfl⟩ rfl hl.1 rfl (Nat.le_of_ble_eq_true rfl) dX7_sets_3 (fun H locs hw => ?_)
  refine lv_if_ne (tgt := 11) hx hb dX7_sets_6 (by decide) (fun c13 => ?_) (fun c13 => ?_)
  · replace hf := (if_neg c13).symm.trans hf
    refine lv_aload_n hx hb dX7_sets_11 rfl (lv_at hl 0 rfl) ?_
    obtain ⟨u14, q15, hf⟩ := ob hf
    refine cVv (As := []) X hw (ctX7_shareOutHeard l E b  q15) ⟨mw_645, mw_647, mw_22, mw_52, mw_648⟩ hd_X7_shareOutHeard ⟨Nat.le_of_ble_eq_true rfl, Nat.le_of_ble_eq_true rfl, rfl, rfl⟩ (kdk kk_0 (by decide)) (ce_X7 E _ _ _ _ kk_0) (show vwCl[7]? = some (RX7, TX7, 11) from rfl) rfl hl.1 rfl (Nat.le_of_ble_eq_true rfl) dX7_sets_12 (fun H locs hw => ?_)
    refine lv_iconst (v := 1) hx hb dX7_sets_15 (by decide) ?_
    refine lv_aload_n hx hb dX7_sets_16 rfl (lv_at hl 0 rfl) ?_
    refine gt_X7 X hw 7 kk_0 rfl (by decide) mw_285 rfl dX7_sets_17 ?_
    refine gt_X6 X hw 3 kk_191 rfl (by decide) mw_114 rfl dX7_sets_20 ?_
    refine lv_ishl hx hb dX7_sets_23 ?_
    refine lv_iconst (v := 1) hx hb dX7_sets_24 (by decide) ?_
    refine lv_isub hx hb dX7_sets_25 ?_
    refine lv_topi (fun z16 ez16 => ?_)
    replace hf := nmb hf ez16
    refine lv_istore_n (lv' := [(2, .int z16), (0, .ref (b + 0)), (1, .int x1)]) hx hb dX7_sets_26 rfl hl (by decide) rfl (fun ls hl => ?_)
    refine lv_iconst (v := 0) hx hb dX7_sets_27 (by decide) ?_
    refine lv_istore_n (lv' := [(3, .int 0), (2, .int z16), (0, .ref (b + 0)), (1, .int x1)]) hx hb dX7_sets_28 rfl hl (by decide) rfl (fun ls hl => ?_)
    refine lv_bipush (v := (-9)) hx hb dX7_sets_29 (by decide) ?_
    refine lv_istore (lv' := [(4, .int ((-9))), (3, .int 0), (2, .int z16), (0, .ref (b + 0)), (1, .int x1)]) hx hb dX7_sets_31 hl (by decide) rfl (fun ls hl => ?_)
    refine lv_iload_n hx hb dX7_sets_33 rfl (lv_at hl 2 rfl) ?_
    refine lv_istore (lv' := [(5, .int z16), (4, .int ((-9))), (3, .int 0), (2, .int z16), (0, .ref (b + 0)), (1, .int x1)]) hx hb dX7_sets_34 hl (by decide) rfl (fun ls hl => ?_)
    refine lv_iconst (v := 0) hx hb dX7_sets_36 (by decide) ?_
    refine lv_istore (lv' := [(6, .int 0), (5, .int z16), (4, .int ((-9))), (3, .int 0), (2, .int z16), (0, .ref (b + 0)), (1, .int x1)]) hx hb dX7_sets_37 hl (by decide) rfl (fun ls hl => ?_)
    refine lv_iconst (v := 0) hx hb dX7_sets_39 (by decide) ?_
    refine lv_istore (lv' := [(7, .int 0), (6, .int 0), (5, .int z16), (4, .int ((-9))), (3, .int 0), (2, .int z16), (0, .ref (b + 0)), (1, .int x1)]) hx hb dX7_sets_40 hl (by decide) rfl (fun ls hl => ?_)
    exact tX7_sets_42 X hr hlk FU x1 z16 0 ((-9)) z16 0 0 u14 hf H locs ls hw (lv_sub hl [6, 7, 5, 4, 3, 2, 1, 0] rfl)
  · replace hf := (if_pos c13).symm.trans hf
    refine lv_iconst (v := (-1)) hx hb dX7_sets_9 (by decide) ?_
    replace hf := Option.some.inj hf
    subst hf
    exact eI X hw hr hlk dX7_sets_10

abbrev rmX7_forget : Room := { frames := 1, cells := 0, slots := 0, locals := 20 }
theorem hd_X7_forget : Hd yX7_forget RX7 0 := by decide +kernel
def gX7_forget (M : Mem) : Option (Int32 × Mem) := (some ((M 181 3) + (M 181 4))).bind fun z30 => (gX0_drop M).bind fun u31 => some (z30, u31)
set_option maxHeartbeats 4000000 in
set_option maxRecDepth 100000 in
theorem ctX7_forget (l : Launch) (E : EE) (b : Nat) {TC : Int64} {MM : Mem} {TM : Int64} {M : Mem} {res : Int32 × Mem}  (hf : gX7_forget M = some res) : MetI l E b yX7_forget (.code yX7_forget cX7_forget 2 (some .int)) rmX7_forget [.ref (b + 0)] M TC MM TM res.1 res.2 TC MM TM := by
  refine Met.ofW (cc := cX7_forget) (maxL := 2) (ret := (some .int)) (by decide) rfl ?_
  intro p e s m args below meth c s₁ B hml hv
  obtain ⟨rfl, hP, hK⟩ := hv
  have hx := B.exec
  have hb := B.bytes
  have X : CX E p s m _ c cX7_forget 2 RX7 := ⟨hx, hb, hml, findClass_of_methodNamed B.named, fun w h => atoms_spec (ws := _ :: wt) B.pre w (List.mem_cons_of_mem _ h), hK⟩
  have hr := B.returns
  have hlk := B.notSynchronized
  have hw : WW E b M TC MM TM s s.heap [] := ⟨hP, va_S.rf⟩
  have hl := lv_entry ([.ref (b + 0)]) (n := 2) (Nat.le_of_ble_eq_true rfl)
  rw [lg_entry_eq]
  generalize (lg_sl ([.ref (b + 0)]) ++ List.replicate (2 - (lg_sl ([.ref (b + 0)])).length) Slot.unset).toArray = ls at hl ⊢
  have hl : lv_has ls 2 [(0, .ref (b + 0))] := hl
  obtain ⟨H, hH⟩ : ∃ H, H = s.heap := ⟨_, rfl⟩
  obtain ⟨locs, hL⟩ : ∃ L : List Loc, L = [] := ⟨_, rfl⟩
  rw [← hH, ← hL] at hw
  suffices hg : W p l e rmX7_forget s m _ below meth c H locs 0 0 (MQ below (va_Qi (fun x (_ : Unit) => x = res.1) (fun _ t => PW E b res.2 TC MM TM t) (AA b)) _ s 0 0 (AA b)) (F0 m 0 ls []) by rw [hH, hL] at hg; exact hg
  clear hH hL
  rw [gX7_forget] at hf
  refine lv_aload_n hx hb dX7_forget_0 rfl (lv_at hl 0 rfl) ?_
  refine gt_X7 X hw 5 kk_0 rfl (by decide) mw_283 rfl dX7_forget_1 ?_
  refine gt_X0 X hw 3 kk_181 rfl (by decide) mw_230 rfl dX7_forget_4 ?_
  refine lv_aload_n hx hb dX7_forget_7 rfl (lv_at hl 0 rfl) ?_
  refine gt_X7 X hw 5 kk_0 rfl (by decide) mw_283 rfl dX7_forget_8 ?_
  refine gt_X0 X hw 4 kk_181 rfl (by decide) mw_232 rfl dX7_forget_11 ?_
  refine lv_iadd hx hb dX7_forget_14 ?_
  refine lv_topi (fun z30 ez30 => ?_)
  replace hf := nmb hf ez30
  refine lv_istore_n (lv' := [(1, .int z30), (0, .ref (b + 0))]) hx hb dX7_forget_15 rfl hl (by decide) rfl (fun ls hl => ?_)
  refine lv_aload_n hx hb dX7_forget_16 rfl (lv_at hl 1 rfl) ?_
  refine gt_X7 X hw 5 kk_0 rfl (by decide) mw_283 rfl dX7_forget_17 ?_
  obtain ⟨u31, q32, hf⟩ := ob hf
  refine cVv (As := []) X hw (ctX0_drop l E b  q32) ⟨mw_396, mw_397, mw_398, mw_59, mw_399⟩ hd_X0_drop ⟨Nat.le_of_ble_eq_true rfl, Nat.le_of_ble_eq_true rfl, rfl, rfl⟩ (kdk kk_181 (by decide)) (ce_X0 E _ _ _ _ kk_181) (show vwCl[0]? = some (RX0, TX0, 5) from rfl) rfl hl.1 rfl (Nat.le_of_ble_eq_true rfl) dX7_forget_20 (fun H locs hw => ?_)
  refine lv_iload_n hx hb dX7_forget_23 rfl (lv_at hl 0 rfl) ?_
  replace hf := Option.some.inj hf
  subst hf
  exact eI X hw hr hlk dX7_forget_24

abbrev rmX7_markOne : Room := { frames := 0, cells := 0, slots := 0, locals := 0 }
theorem hd_X7_markOne : Hd yX7_markOne RX7 1 := by decide +kernel
def gX7_markOne (x1 : Int32) (M : Mem) (T : Int64) : Option (Int32 × Int64) := (some (T + 1)).bind fun T33 => (ldA 5 (M 10) x1).bind fun v34 => some (v34, T33)
set_option maxHeartbeats 4000000 in
set_option maxRecDepth 100000 in
theorem ctX7_markOne (l : Launch) (E : EE) (b : Nat) {MM : Mem} {TM : Int64} {x1 : Int32} {M : Mem} {T : Int64} {res : Int32 × Int64}  (hf : gX7_markOne x1 M T = some res) : MetI l E b yX7_markOne (.code yX7_markOne cX7_markOne 2 (some .int)) rmX7_markOne [.ref (b + 0), .int x1] M T MM TM res.1 M res.2 MM TM := by
  refine Met.ofW (cc := cX7_markOne) (maxL := 2) (ret := (some .int)) (by decide) rfl ?_
  intro p e s m args below meth c s₁ B hml hv
  obtain ⟨rfl, hP, hK⟩ := hv
  have hx := B.exec
  have hb := B.bytes
  have X : CX E p s m _ c cX7_markOne 2 RX7 := ⟨hx, hb, hml, findClass_of_methodNamed B.named, fun w h => atoms_spec (ws := _ :: wt) B.pre w (List.mem_cons_of_mem _ h), hK⟩
  have hr := B.returns
  have hlk := B.notSynchronized
  have hw : WW E b M T MM TM s s.heap [] := ⟨hP, va_S.rf⟩
  have hl := lv_entry ([.ref (b + 0), .int x1]) (n := 2) (Nat.le_of_ble_eq_true rfl)
  rw [lg_entry_eq]
  generalize (lg_sl ([.ref (b + 0), .int x1]) ++ List.replicate (2 - (lg_sl ([.ref (b + 0), .int x1])).length) Slot.unset).toArray = ls at hl ⊢
  have hl : lv_has ls 2 [(0, .ref (b + 0)), (1, .int x1)] := hl
  obtain ⟨H, hH⟩ : ∃ H, H = s.heap := ⟨_, rfl⟩
  obtain ⟨locs, hL⟩ : ∃ L : List Loc, L = [] := ⟨_, rfl⟩
  rw [← hH, ← hL] at hw
  suffices hg : W p l e rmX7_markOne s m _ below meth c H locs 0 0 (MQ below (va_Qi (fun x (_ : Unit) => x = res.1) (fun _ t => PW E b M res.2 MM TM t) (AA b)) _ s 0 0 (AA b)) (F0 m 0 ls []) by rw [hH, hL] at hg; exact hg
  clear hH hL
  rw [gX7_markOne] at hf
  refine lv_aload_n hx hb dX7_markOne_0 rfl (lv_at hl 0 rfl) ?_
  refine lv_dup hx hb dX7_markOne_1 rfl ?_
  refine gt_X7 X hw 10 kk_0 rfl (by decide) mw_288 rfl dX7_markOne_2 ?_
  refine lv_lconst (v := 1) hx hb dX7_markOne_5 (by decide) ?_
  refine lv_ladd hx hb dX7_markOne_6 ?_
  refine pt_X7_10 X hw mw_288 dX7_markOne_7 (fun H locs hw => ?_)
  obtain ⟨T33, eT33, hf⟩ := ob hf
  rw [Option.some.inj eT33] at hw
  refine lv_aload_n hx hb dX7_markOne_10 rfl (lv_at hl 0 rfl) ?_
  refine gt_X7 X hw 2 kk_0 rfl (by decide) mw_280 rfl dX7_markOne_11 ?_
  refine gt_X5 X hw 0 kk_8 rfl (by decide) mw_205 rfl dX7_markOne_14 ?_
  refine gt_X1 X hw 0 kk_9 rfl (by decide) mw_181 rfl dX7_markOne_17 ?_
  refine lv_iload_n hx hb dX7_markOne_20 rfl (lv_at hl 1 rfl) ?_
  obtain ⟨v34, q35, hf⟩ := ob hf
  refine aldC X hw kdv_10 q35 dX7_markOne_21 ?_
  replace hf := Option.some.inj hf
  subst hf
  exact eI X hw hr hlk dX7_markOne_22

abbrev rmX7_markBald : Room := { frames := 1, cells := 0, slots := 0, locals := 21 }
theorem hd_X7_markBald : Hd yX7_markBald RX7 1 := by decide +kernel
def gX7_markBald (x1 : Int32) (M : Mem) (T : Int64) : Option (Int32 × Int64) := (some (T + 100000)).bind fun T36 => (gX7_markOne x1 M T36).bind fun u37 => some (u37.1 + (M 9 4), u37.2)
set_option maxHeartbeats 4000000 in
set_option maxRecDepth 100000 in
theorem ctX7_markBald (l : Launch) (E : EE) (b : Nat) {MM : Mem} {TM : Int64} {x1 : Int32} {M : Mem} {T : Int64} {res : Int32 × Int64}  (hf : gX7_markBald x1 M T = some res) : MetI l E b yX7_markBald (.code yX7_markBald cX7_markBald 2 (some .int)) rmX7_markBald [.ref (b + 0), .int x1] M T MM TM res.1 M res.2 MM TM := by
  refine Met.ofW (cc := cX7_markBald) (maxL := 2) (ret := (some .int)) (by decide) rfl ?_
  intro p e s m args below meth c s₁ B hml hv
  obtain ⟨rfl, hP, hK⟩ := hv
  have hx := B.exec
  have hb := B.bytes
  have X : CX E p s m _ c cX7_markBald 2 RX7 := ⟨hx, hb, hml, findClass_of_methodNamed B.named, fun w h => atoms_spec (ws := _ :: wt) B.pre w (List.mem_cons_of_mem _ h), hK⟩
  have hr := B.returns
  have hlk := B.notSynchronized
  have hw : WW E b M T MM TM s s.heap [] := ⟨hP, va_S.rf⟩
  have hl := lv_entry ([.ref (b + 0), .int x1]) (n := 2) (Nat.le_of_ble_eq_true rfl)
  rw [lg_entry_eq]
  generalize (lg_sl ([.ref (b + 0), .int x1]) ++ List.replicate (2 - (lg_sl ([.ref (b + 0), .int x1])).length) Slot.unset).toArray = ls at hl ⊢
  have hl : lv_has ls 2 [(0, .ref (b + 0)), (1, .int x1)] := hl
  obtain ⟨H, hH⟩ : ∃ H, H = s.heap := ⟨_, rfl⟩
  obtain ⟨locs, hL⟩ : ∃ L : List Loc, L = [] := ⟨_, rfl⟩
  rw [← hH, ← hL] at hw
  suffices hg : W p l e rmX7_markBald s m _ below meth c H locs 0 0 (MQ below (va_Qi (fun x (_ : Unit) => x = res.1) (fun _ t => PW E b M res.2 MM TM t) (AA b)) _ s 0 0 (AA b)) (F0 m 0 ls []) by rw [hH, hL] at hg; exact hg
  clear hH hL
  rw [gX7_markBald] at hf
  refine lv_aload_n hx hb dX7_markBald_0 rfl (lv_at hl 0 rfl) ?_
  refine lv_dup hx hb dX7_markBald_1 rfl ?_
  refine gt_X7 X hw 10 kk_0 rfl (by decide) mw_288 rfl dX7_markBald_2 ?_
  refine lv_ldc2 (v := 100000) hx hb X.2.2.2.1 (X.2.2.2.2.1 _ mw_694) dX7_markBald_5 ?_
  refine lv_ladd hx hb dX7_markBald_8 ?_
  refine pt_X7_10 X hw mw_288 dX7_markBald_9 (fun H locs hw => ?_)
  obtain ⟨T36, eT36, hf⟩ := ob hf
  rw [Option.some.inj eT36] at hw
  refine lv_aload_n hx hb dX7_markBald_12 rfl (lv_at hl 0 rfl) ?_
  refine lv_iload_n hx hb dX7_markBald_13 rfl (lv_at hl 1 rfl) ?_
  obtain ⟨u37, q38, hf⟩ := ob hf
  refine cVi (As := [.int x1]) X hw (ctX7_markOne l E b  q38) ⟨mw_662, mw_664, mw_24, mw_52, mw_665⟩ hd_X7_markOne ⟨Nat.le_of_ble_eq_true rfl, Nat.le_of_ble_eq_true rfl, rfl, rfl⟩ (kdk kk_0 (by decide)) (ce_X7 E _ _ _ _ kk_0) (show vwCl[7]? = some (RX7, TX7, 11) from rfl) rfl hl.1 rfl (Nat.le_of_ble_eq_true rfl) dX7_markBald_14 (fun H locs hw => ?_)
  refine lv_aload_n hx hb dX7_markBald_17 rfl (lv_at hl 0 rfl) ?_
  refine gt_X7 X hw 2 kk_0 rfl (by decide) mw_280 rfl dX7_markBald_18 ?_
  refine gt_X5 X hw 0 kk_8 rfl (by decide) mw_205 rfl dX7_markBald_21 ?_
  refine gt_X1 X hw 4 kk_9 rfl (by decide) mw_187 rfl dX7_markBald_24 ?_
  refine lv_iadd hx hb dX7_markBald_27 ?_
  replace hf := Option.some.inj hf
  subst hf
  exact eI X hw hr hlk dX7_markBald_28

abbrev rmX7_markBride : Room := { frames := 1, cells := 0, slots := 0, locals := 21 }
theorem hd_X7_markBride : Hd yX7_markBride RX7 1 := by decide +kernel
def gX7_markBride (x1 : Int32) (M : Mem) (T : Int64) : Option (Int32 × Int64) := (some (T + 100)).bind fun T39 => (gX7_markOne x1 M T39).bind fun u40 => (ldA 5 (M 192) x1).bind fun v42 => some (u40.1 - v42, u40.2)
set_option maxHeartbeats 4000000 in
set_option maxRecDepth 100000 in
theorem ctX7_markBride (l : Launch) (E : EE) (b : Nat) {MM : Mem} {TM : Int64} {x1 : Int32} {M : Mem} {T : Int64} {res : Int32 × Int64}  (hf : gX7_markBride x1 M T = some res) : MetI l E b yX7_markBride (.code yX7_markBride cX7_markBride 2 (some .int)) rmX7_markBride [.ref (b + 0), .int x1] M T MM TM res.1 M res.2 MM TM := by
  refine Met.ofW (cc := cX7_markBride) (maxL := 2) (ret := (some .int)) (by decide) rfl ?_
  intro p e s m args below meth c s₁ B hml hv
  obtain ⟨rfl, hP, hK⟩ := hv
  have hx := B.exec
  have hb := B.bytes
  have X : CX E p s m _ c cX7_markBride 2 RX7 := ⟨hx, hb, hml, findClass_of_methodNamed B.named, fun w h => atoms_spec (ws := _ :: wt) B.pre w (List.mem_cons_of_mem _ h), hK⟩
  have hr := B.returns
  have hlk := B.notSynchronized
  have hw : WW E b M T MM TM s s.heap [] := ⟨hP, va_S.rf⟩
  have hl := lv_entry ([.ref (b + 0), .int x1]) (n := 2) (Nat.le_of_ble_eq_true rfl)
  rw [lg_entry_eq]
  generalize (lg_sl ([.ref (b + 0), .int x1]) ++ List.replicate (2 - (lg_sl ([.ref (b + 0), .int x1])).length) Slot.unset).toArray = ls at hl ⊢
  have hl : lv_has ls 2 [(0, .ref (b + 0)), (1, .int x1)] := hl
  obtain ⟨H, hH⟩ : ∃ H, H = s.heap := ⟨_, rfl⟩
  obtain ⟨locs, hL⟩ : ∃ L : List Loc, L = [] := ⟨_, rfl⟩
  rw [← hH, ← hL] at hw
  suffices hg : W p l e rmX7_markBride s m _ below meth c H locs 0 0 (MQ below (va_Qi (fun x (_ : Unit) => x = res.1) (fun _ t => PW E b M res.2 MM TM t) (AA b)) _ s 0 0 (AA b)) (F0 m 0 ls []) by rw [hH, hL] at hg; exact hg
  clear hH hL
  rw [gX7_markBride] at hf
  refine lv_aload_n hx hb dX7_markBride_0 rfl (lv_at hl 0 rfl) ?_
  refine lv_dup hx hb dX7_markBride_1 rfl ?_
  refine gt_X7 X hw 10 kk_0 rfl (by decide) mw_288 rfl dX7_markBride_2 ?_
  refine lv_ldc2 (v := 100) hx hb X.2.2.2.1 (X.2.2.2.2.1 _ mw_679) dX7_markBride_5 ?_
  refine lv_ladd hx hb dX7_markBride_8 ?_
  refine pt_X7_10 X hw mw_288 dX7_markBride_9 (fun H locs hw => ?_)
  obtain ⟨T39, eT39, hf⟩ := ob hf
  rw [Option.some.inj eT39] at hw
  refine lv_aload_n hx hb dX7_markBride_12 rfl (lv_at hl 0 rfl) ?_
  refine lv_iload_n hx hb dX7_markBride_13 rfl (lv_at hl 1 rfl) ?_
  obtain ⟨u40, q41, hf⟩ := ob hf
  refine cVi (As := [.int x1]) X hw (ctX7_markOne l E b  q41) ⟨mw_662, mw_664, mw_24, mw_52, mw_665⟩ hd_X7_markOne ⟨Nat.le_of_ble_eq_true rfl, Nat.le_of_ble_eq_true rfl, rfl, rfl⟩ (kdk kk_0 (by decide)) (ce_X7 E _ _ _ _ kk_0) (show vwCl[7]? = some (RX7, TX7, 11) from rfl) rfl hl.1 rfl (Nat.le_of_ble_eq_true rfl) dX7_markBride_14 (fun H locs hw => ?_)
  refine lv_aload_n hx hb dX7_markBride_17 rfl (lv_at hl 0 rfl) ?_
  refine gt_X7 X hw 7 kk_0 rfl (by decide) mw_285 rfl dX7_markBride_18 ?_
  refine gt_X6 X hw 0 kk_191 rfl (by decide) mw_104 rfl dX7_markBride_21 ?_
  refine lv_iload_n hx hb dX7_markBride_24 rfl (lv_at hl 1 rfl) ?_
  obtain ⟨v42, q43, hf⟩ := ob hf
  refine aldC X hw kdv_192 q43 dX7_markBride_25 ?_
  refine lv_isub hx hb dX7_markBride_26 ?_
  replace hf := Option.some.inj hf
  subst hf
  exact eI X hw hr hlk dX7_markBride_27

abbrev rmX7_markNun : Room := { frames := 2, cells := 0, slots := 0, locals := 42 }
theorem hd_X7_markNun : Hd yX7_markNun RX7 1 := by decide +kernel
def gX7_markNun (x1 : Int32) (M : Mem) (T : Int64) : Option (Int32 × Int64) := (some (T + 10000)).bind fun T44 => (gX7_markBride x1 M T44).bind fun u45 => some (u45.1 + x1, u45.2)
set_option maxHeartbeats 4000000 in
set_option maxRecDepth 100000 in
theorem ctX7_markNun (l : Launch) (E : EE) (b : Nat) {MM : Mem} {TM : Int64} {x1 : Int32} {M : Mem} {T : Int64} {res : Int32 × Int64}  (hf : gX7_markNun x1 M T = some res) : MetI l E b yX7_markNun (.code yX7_markNun cX7_markNun 2 (some .int)) rmX7_markNun [.ref (b + 0), .int x1] M T MM TM res.1 M res.2 MM TM := by
  refine Met.ofW (cc := cX7_markNun) (maxL := 2) (ret := (some .int)) (by decide) rfl ?_
  intro p e s m args below meth c s₁ B hml hv
  obtain ⟨rfl, hP, hK⟩ := hv
  have hx := B.exec
  have hb := B.bytes
  have X : CX E p s m _ c cX7_markNun 2 RX7 := ⟨hx, hb, hml, findClass_of_methodNamed B.named, fun w h => atoms_spec (ws := _ :: wt) B.pre w (List.mem_cons_of_mem _ h), hK⟩
  have hr := B.returns
  have hlk := B.notSynchronized
  have hw : WW E b M T MM TM s s.heap [] := ⟨hP, va_S.rf⟩
  have hl := lv_entry ([.ref (b + 0), .int x1]) (n := 2) (Nat.le_of_ble_eq_true rfl)
  rw [lg_entry_eq]
  generalize (lg_sl ([.ref (b + 0), .int x1]) ++ List.replicate (2 - (lg_sl ([.ref (b + 0), .int x1])).length) Slot.unset).toArray = ls at hl ⊢
  have hl : lv_has ls 2 [(0, .ref (b + 0)), (1, .int x1)] := hl
  obtain ⟨H, hH⟩ : ∃ H, H = s.heap := ⟨_, rfl⟩
  obtain ⟨locs, hL⟩ : ∃ L : List Loc, L = [] := ⟨_, rfl⟩
  rw [← hH, ← hL] at hw
  suffices hg : W p l e rmX7_markNun s m _ below meth c H locs 0 0 (MQ below (va_Qi (fun x (_ : Unit) => x = res.1) (fun _ t => PW E b M res.2 MM TM t) (AA b)) _ s 0 0 (AA b)) (F0 m 0 ls []) by rw [hH, hL] at hg; exact hg
  clear hH hL
  rw [gX7_markNun] at hf
  refine lv_aload_n hx hb dX7_markNun_0 rfl (lv_at hl 0 rfl) ?_
  refine lv_dup hx hb dX7_markNun_1 rfl ?_
  refine gt_X7 X hw 10 kk_0 rfl (by decide) mw_288 rfl dX7_markNun_2 ?_
  refine lv_ldc2 (v := 10000) hx hb X.2.2.2.1 (X.2.2.2.2.1 _ mw_689) dX7_markNun_5 ?_
  refine lv_ladd hx hb dX7_markNun_8 ?_
  refine pt_X7_10 X hw mw_288 dX7_markNun_9 (fun H locs hw => ?_)
  obtain ⟨T44, eT44, hf⟩ := ob hf
  rw [Option.some.inj eT44] at hw
  refine lv_aload_n hx hb dX7_markNun_12 rfl (lv_at hl 0 rfl) ?_
  refine lv_iload_n hx hb dX7_markNun_13 rfl (lv_at hl 1 rfl) ?_
  obtain ⟨u45, q46, hf⟩ := ob hf
  refine cVi (As := [.int x1]) X hw (ctX7_markBride l E b  q46) ⟨mw_675, mw_677, mw_26, mw_52, mw_678⟩ hd_X7_markBride ⟨Nat.le_of_ble_eq_true rfl, Nat.le_of_ble_eq_true rfl, rfl, rfl⟩ (kdk kk_0 (by decide)) (ce_X7 E _ _ _ _ kk_0) (show vwCl[7]? = some (RX7, TX7, 11) from rfl) rfl hl.1 rfl (Nat.le_of_ble_eq_true rfl) dX7_markNun_14 (fun H locs hw => ?_)
  refine lv_iload_n hx hb dX7_markNun_17 rfl (lv_at hl 1 rfl) ?_
  refine lv_iadd hx hb dX7_markNun_18 ?_
  replace hf := Option.some.inj hf
  subst hf
  exact eI X hw hr hlk dX7_markNun_19

abbrev rmX7_markPoet : Room := { frames := 2, cells := 0, slots := 0, locals := 43 }
theorem hd_X7_markPoet : Hd yX7_markPoet RX7 1 := by decide +kernel
def gX7_markPoet (x1 : Int32) (M : Mem) (T : Int64) : Option (Int32 × Int64) := (some (T + 10)).bind fun T47 => (gX7_markOne x1 M T47).bind fun u48 => (gX1_rootOf 9 x1 M).bind fun u50 => some (u48.1 + u50, u48.2)
set_option maxHeartbeats 4000000 in
set_option maxRecDepth 100000 in
theorem ctX7_markPoet (l : Launch) (E : EE) (b : Nat) {MM : Mem} {TM : Int64} {x1 : Int32} {M : Mem} {T : Int64} {res : Int32 × Int64}  (hf : gX7_markPoet x1 M T = some res) : MetI l E b yX7_markPoet (.code yX7_markPoet cX7_markPoet 2 (some .int)) rmX7_markPoet [.ref (b + 0), .int x1] M T MM TM res.1 M res.2 MM TM := by
  refine Met.ofW (cc := cX7_markPoet) (maxL := 2) (ret := (some .int)) (by decide) rfl ?_
  intro p e s m args below meth c s₁ B hml hv
  obtain ⟨rfl, hP, hK⟩ := hv
  have hx := B.exec
  have hb := B.bytes
  have X : CX E p s m _ c cX7_markPoet 2 RX7 := ⟨hx, hb, hml, findClass_of_methodNamed B.named, fun w h => atoms_spec (ws := _ :: wt) B.pre w (List.mem_cons_of_mem _ h), hK⟩
  have hr := B.returns
  have hlk := B.notSynchronized
  have hw : WW E b M T MM TM s s.heap [] := ⟨hP, va_S.rf⟩
  have hl := lv_entry ([.ref (b + 0), .int x1]) (n := 2) (Nat.le_of_ble_eq_true rfl)
  rw [lg_entry_eq]
  generalize (lg_sl ([.ref (b + 0), .int x1]) ++ List.replicate (2 - (lg_sl ([.ref (b + 0), .int x1])).length) Slot.unset).toArray = ls at hl ⊢
  have hl : lv_has ls 2 [(0, .ref (b + 0)), (1, .int x1)] := hl
  obtain ⟨H, hH⟩ : ∃ H, H = s.heap := ⟨_, rfl⟩
  obtain ⟨locs, hL⟩ : ∃ L : List Loc, L = [] := ⟨_, rfl⟩
  rw [← hH, ← hL] at hw
  suffices hg : W p l e rmX7_markPoet s m _ below meth c H locs 0 0 (MQ below (va_Qi (fun x (_ : Unit) => x = res.1) (fun _ t => PW E b M res.2 MM TM t) (AA b)) _ s 0 0 (AA b)) (F0 m 0 ls []) by rw [hH, hL] at hg; exact hg
  clear hH hL
  rw [gX7_markPoet] at hf
  refine lv_aload_n hx hb dX7_markPoet_0 rfl (lv_at hl 0 rfl) ?_
  refine lv_dup hx hb dX7_markPoet_1 rfl ?_
  refine gt_X7 X hw 10 kk_0 rfl (by decide) mw_288 rfl dX7_markPoet_2 ?_
  refine lv_ldc2 (v := 10) hx hb X.2.2.2.1 (X.2.2.2.2.1 _ mw_670) dX7_markPoet_5 ?_
  refine lv_ladd hx hb dX7_markPoet_8 ?_
  refine pt_X7_10 X hw mw_288 dX7_markPoet_9 (fun H locs hw => ?_)
  obtain ⟨T47, eT47, hf⟩ := ob hf
  rw [Option.some.inj eT47] at hw
  refine lv_aload_n hx hb dX7_markPoet_12 rfl (lv_at hl 0 rfl) ?_
  refine lv_iload_n hx hb dX7_markPoet_13 rfl (lv_at hl 1 rfl) ?_
  obtain ⟨u48, q49, hf⟩ := ob hf
  refine cVi (As := [.int x1]) X hw (ctX7_markOne l E b  q49) ⟨mw_662, mw_664, mw_24, mw_52, mw_665⟩ hd_X7_markOne ⟨Nat.le_of_ble_eq_true rfl, Nat.le_of_ble_eq_true rfl, rfl, rfl⟩ (kdk kk_0 (by decide)) (ce_X7 E _ _ _ _ kk_0) (show vwCl[7]? = some (RX7, TX7, 11) from rfl) rfl hl.1 rfl (Nat.le_of_ble_eq_true rfl) dX7_markPoet_14 (fun H locs hw => ?_)
  refine lv_aload_n hx hb dX7_markPoet_17 rfl (lv_at hl 0 rfl) ?_
  refine gt_X7 X hw 2 kk_0 rfl (by decide) mw_280 rfl dX7_markPoet_18 ?_
  refine gt_X5 X hw 0 kk_8 rfl (by decide) mw_205 rfl dX7_markPoet_21 ?_
  refine lv_iload_n hx hb dX7_markPoet_24 rfl (lv_at hl 1 rfl) ?_
  obtain ⟨u50, q51, hf⟩ := ob hf
  refine cVi (As := [.int x1]) X hw (ctX1_rootOf l E b kk_9 q51) ⟨mw_671, mw_672, mw_673, mw_57, mw_674⟩ hd_X1_rootOf ⟨Nat.le_of_ble_eq_true rfl, Nat.le_of_ble_eq_true rfl, rfl, rfl⟩ (kdk kk_9 (by decide)) (ce_X1 E _ _ _ _ kk_9) (show vwCl[1]? = some (RX1, TX1, 6) from rfl) rfl hl.1 rfl (Nat.le_of_ble_eq_true rfl) dX7_markPoet_25 (fun H locs hw => ?_)
  refine lv_iadd hx hb dX7_markPoet_28 ?_
  replace hf := Option.some.inj hf
  subst hf
  exact eI X hw hr hlk dX7_markPoet_29

abbrev rmX7_markWig : Room := { frames := 3, cells := 0, slots := 0, locals := 64 }
theorem hd_X7_markWig : Hd yX7_markWig RX7 1 := by decide +kernel
def gX7_markWig (x1 : Int32) (M : Mem) (T : Int64) : Option (Int32 × Int64) := (some (T + 1000)).bind fun T52 => (gX7_markPoet x1 M T52).bind fun u53 => some (u53.1 * 2, u53.2)
set_option maxHeartbeats 4000000 in
set_option maxRecDepth 100000 in
theorem ctX7_markWig (l : Launch) (E : EE) (b : Nat) {MM : Mem} {TM : Int64} {x1 : Int32} {M : Mem} {T : Int64} {res : Int32 × Int64}  (hf : gX7_markWig x1 M T = some res) : MetI l E b yX7_markWig (.code yX7_markWig cX7_markWig 2 (some .int)) rmX7_markWig [.ref (b + 0), .int x1] M T MM TM res.1 M res.2 MM TM := by
  refine Met.ofW (cc := cX7_markWig) (maxL := 2) (ret := (some .int)) (by decide) rfl ?_
  intro p e s m args below meth c s₁ B hml hv
  obtain ⟨rfl, hP, hK⟩ := hv
  have hx := B.exec
  have hb := B.bytes
  have X : CX E p s m _ c cX7_markWig 2 RX7 := ⟨hx, hb, hml, findClass_of_methodNamed B.named, fun w h => atoms_spec (ws := _ :: wt) B.pre w (List.mem_cons_of_mem _ h), hK⟩
  have hr := B.returns
  have hlk := B.notSynchronized
  have hw : WW E b M T MM TM s s.heap [] := ⟨hP, va_S.rf⟩
  have hl := lv_entry ([.ref (b + 0), .int x1]) (n := 2) (Nat.le_of_ble_eq_true rfl)
  rw [lg_entry_eq]
  generalize (lg_sl ([.ref (b + 0), .int x1]) ++ List.replicate (2 - (lg_sl ([.ref (b + 0), .int x1])).length) Slot.unset).toArray = ls at hl ⊢
  have hl : lv_has ls 2 [(0, .ref (b + 0)), (1, .int x1)] := hl
  obtain ⟨H, hH⟩ : ∃ H, H = s.heap := ⟨_, rfl⟩
  obtain ⟨locs, hL⟩ : ∃ L : List Loc, L = [] := ⟨_, rfl⟩
  rw [← hH, ← hL] at hw
  suffices hg : W p l e rmX7_markWig s m _ below meth c H locs 0 0 (MQ below (va_Qi (fun x (_ : Unit) => x = res.1) (fun _ t => PW E b M res.2 MM TM t) (AA b)) _ s 0 0 (AA b)) (F0 m 0 ls []) by rw [hH, hL] at hg; exact hg
  clear hH hL
  rw [gX7_markWig] at hf
  refine lv_aload_n hx hb dX7_markWig_0 rfl (lv_at hl 0 rfl) ?_
  refine lv_dup hx hb dX7_markWig_1 rfl ?_
  refine gt_X7 X hw 10 kk_0 rfl (by decide) mw_288 rfl dX7_markWig_2 ?_
  refine lv_ldc2 (v := 1000) hx hb X.2.2.2.1 (X.2.2.2.2.1 _ mw_684) dX7_markWig_5 ?_
  refine lv_ladd hx hb dX7_markWig_8 ?_
  refine pt_X7_10 X hw mw_288 dX7_markWig_9 (fun H locs hw => ?_)
  obtain ⟨T52, eT52, hf⟩ := ob hf
  rw [Option.some.inj eT52] at hw
  refine lv_aload_n hx hb dX7_markWig_12 rfl (lv_at hl 0 rfl) ?_
  refine lv_iload_n hx hb dX7_markWig_13 rfl (lv_at hl 1 rfl) ?_
  obtain ⟨u53, q54, hf⟩ := ob hf
  refine cVi (As := [.int x1]) X hw (ctX7_markPoet l E b  q54) ⟨mw_666, mw_668, mw_25, mw_52, mw_669⟩ hd_X7_markPoet ⟨Nat.le_of_ble_eq_true rfl, Nat.le_of_ble_eq_true rfl, rfl, rfl⟩ (kdk kk_0 (by decide)) (ce_X7 E _ _ _ _ kk_0) (show vwCl[7]? = some (RX7, TX7, 11) from rfl) rfl hl.1 rfl (Nat.le_of_ble_eq_true rfl) dX7_markWig_14 (fun H locs hw => ?_)
  refine lv_iconst (v := 2) hx hb dX7_markWig_17 (by decide) ?_
  refine lv_imul hx hb dX7_markWig_18 ?_
  replace hf := Option.some.inj hf
  subst hf
  exact eI X hw hr hlk dX7_markWig_19

abbrev rmX7_mark : Room := { frames := 4, cells := 0, slots := 0, locals := 85 }
theorem hd_X7_mark : Hd yX7_mark RX7 2 := by decide +kernel
def gX7_mark (x1 : Int32) (x2 : Int32) (M : Mem) (T : Int64) : Option (Int32 × Int64) := (gX7_isOne x2 M).bind fun u55 => if u55 = 0 then (some ((-1000000), T)) else (if x1 = 0 then ((gX7_markOne x2 M T).bind fun u59 => some (u59.1, u59.2)) else (if x1 = 1 then ((gX7_markPoet x2 M T).bind fun u62 => some (u62.1, u62.2)) else (if x1 = 2 then ((gX7_markBride x2 M T).bind fun u65 => some (u65.1, u65.2)) else (if x1 = 3 then ((gX7_markWig x2 M T).bind fun u68 => some (u68.1, u68.2)) else (if x1 = 4 then ((gX7_markNun x2 M T).bind fun u71 => some (u71.1, u71.2)) else (if x1 = 5 then ((gX7_markBald x2 M T).bind fun u74 => some (u74.1, u74.2)) else (some ((-1000000), T))))))))
set_option maxHeartbeats 4000000 in
set_option maxRecDepth 100000 in
theorem ctX7_mark (l : Launch) (E : EE) (b : Nat) {MM : Mem} {TM : Int64} {x1 : Int32} {x2 : Int32} {M : Mem} {T : Int64} {res : Int32 × Int64}  (hf : gX7_mark x1 x2 M T = some res) : MetI l E b yX7_mark (.code yX7_mark cX7_mark 3 (some .int)) rmX7_mark [.ref (b + 0), .int x1, .int x2] M T MM TM res.1 M res.2 MM TM := by
  refine Met.ofW (cc := cX7_mark) (maxL := 3) (ret := (some .int)) (by decide) rfl ?_
  intro p e s m args below meth c s₁ B hml hv
  obtain ⟨rfl, hP, hK⟩ := hv
  have hx := B.exec
  have hb := B.bytes
  have X : CX E p s m _ c cX7_mark 3 RX7 := ⟨hx, hb, hml, findClass_of_methodNamed B.named, fun w h => atoms_spec (ws := _ :: wt) B.pre w (List.mem_cons_of_mem _ h), hK⟩
  have hr := B.returns
  have hlk := B.notSynchronized
  have hw : WW E b M T MM TM s s.heap [] := ⟨hP, va_S.rf⟩
  have hl := lv_entry ([.ref (b + 0), .int x1, .int x2]) (n := 3) (Nat.le_of_ble_eq_true rfl)
  rw [lg_entry_eq]
  generalize (lg_sl ([.ref (b + 0), .int x1, .int x2]) ++ List.replicate (3 - (lg_sl ([.ref (b + 0), .int x1, .int x2])).length) Slot.unset).toArray = ls at hl ⊢
  have hl : lv_has ls 3 [(0, .ref (b + 0)), (1, .int x1), (2, .int x2)] := hl
  obtain ⟨H, hH⟩ : ∃ H, H = s.heap := ⟨_, rfl⟩
  obtain ⟨locs, hL⟩ : ∃ L : List Loc, L = [] := ⟨_, rfl⟩
  rw [← hH, ← hL] at hw
  suffices hg : W p l e rmX7_mark s m _ below meth c H locs 0 0 (MQ below (va_Qi (fun x (_ : Unit) => x = res.1) (fun _ t => PW E b M res.2 MM TM t) (AA b)) _ s 0 0 (AA b)) (F0 m 0 ls []) by rw [hH, hL] at hg; exact hg
  clear hH hL
  rw [gX7_mark] at hf
  refine lv_aload_n hx hb dX7_mark_0 rfl (lv_at hl 0 rfl) ?_
  refine lv_iload_n hx hb dX7_mark_1 rfl (lv_at hl 2 rfl) ?_
  obtain ⟨u55, q56, hf⟩ := ob hf
  refine cVi (As := [.int x2]) X hw (ctX7_isOne l E b  q56) ⟨mw_404, mw_406, mw_9, mw_52, mw_407⟩ hd_X7_isOne ⟨Nat.le_of_ble_eq_true rfl, Nat.le_of_ble_eq_true rfl, rfl, rfl⟩ (kdk kk_0 (by decide)) (ce_X7 E _ _ _ _ kk_0) (show vwCl[7]? = some (RX7, TX7, 11) from rfl) rfl hl.1 rfl (Nat.le_of_ble_eq_true rfl) dX7_mark_2 (fun H locs hw => ?_)
  refine lv_if_ne (tgt := 11) hx hb dX7_mark_5 (by decide) (fun c57 => ?_) (fun c57 => ?_)
  · replace hf := (if_neg c57).symm.trans hf
    refine lv_iload_n hx hb dX7_mark_11 rfl (lv_at hl 1 rfl) ?_
    by_cases c58 : x1 = 0
    · replace hf := (if_pos c58).symm.trans hf
      refine lv_tableIn (tgt := 52) (off := 40) hx hb dX7_mark_12 (by rw [c58]; decide) (by rw [c58]; decide) (by rw [c58]; rfl) (by decide) ?_
      refine lv_aload_n hx hb dX7_mark_52 rfl (lv_at hl 0 rfl) ?_
      refine lv_iload_n hx hb dX7_mark_53 rfl (lv_at hl 2 rfl) ?_
      obtain ⟨u59, q60, hf⟩ := ob hf
      refine cVi (As := [.int x2]) X hw (ctX7_markOne l E b  q60) ⟨mw_662, mw_664, mw_24, mw_52, mw_665⟩ hd_X7_markOne ⟨Nat.le_of_ble_eq_true rfl, Nat.le_of_ble_eq_true rfl, rfl, rfl⟩ (kdk kk_0 (by decide)) (ce_X7 E _ _ _ _ kk_0) (show vwCl[7]? = some (RX7, TX7, 11) from rfl) rfl hl.1 rfl (Nat.le_of_ble_eq_true rfl) dX7_mark_54 (fun H locs hw => ?_)
      replace hf := Option.some.inj hf
      subst hf
      exact eI X hw hr hlk dX7_mark_57
    · replace hf := (if_neg c58).symm.trans hf
      by_cases c61 : x1 = 1
      · replace hf := (if_pos c61).symm.trans hf
        refine lv_tableIn (tgt := 58) (off := 46) hx hb dX7_mark_12 (by rw [c61]; decide) (by rw [c61]; decide) (by rw [c61]; rfl) (by decide) ?_
        refine lv_aload_n hx hb dX7_mark_58 rfl (lv_at hl 0 rfl) ?_
        refine lv_iload_n hx hb dX7_mark_59 rfl (lv_at hl 2 rfl) ?_
        obtain ⟨u62, q63, hf⟩ := ob hf
        refine cVi (As := [.int x2]) X hw (ctX7_markPoet l E b  q63) ⟨mw_666, mw_668, mw_25, mw_52, mw_669⟩ hd_X7_markPoet ⟨Nat.le_of_ble_eq_true rfl, Nat.le_of_ble_eq_true rfl, rfl, rfl⟩ (kdk kk_0 (by decide)) (ce_X7 E _ _ _ _ kk_0) (show vwCl[7]? = some (RX7, TX7, 11) from rfl) rfl hl.1 rfl (Nat.le_of_ble_eq_true rfl) dX7_mark_60 (fun H locs hw => ?_)
        replace hf := Option.some.inj hf
        subst hf
        exact eI X hw hr hlk dX7_mark_63
      · replace hf := (if_neg c61).symm.trans hf
        by_cases c64 : x1 = 2
        · replace hf := (if_pos c64).symm.trans hf
          refine lv_tableIn (tgt := 64) (off := 52) hx hb dX7_mark_12 (by rw [c64]; decide) (by rw [c64]; decide) (by rw [c64]; rfl) (by decide) ?_
          refine lv_aload_n hx hb dX7_mark_64 rfl (lv_at hl 0 rfl) ?_
          refine lv_iload_n hx hb dX7_mark_65 rfl (lv_at hl 2 rfl) ?_
          obtain ⟨u65, q66, hf⟩ := ob hf
          refine cVi (As := [.int x2]) X hw (ctX7_markBride l E b  q66) ⟨mw_675, mw_677, mw_26, mw_52, mw_678⟩ hd_X7_markBride ⟨Nat.le_of_ble_eq_true rfl, Nat.le_of_ble_eq_true rfl, rfl, rfl⟩ (kdk kk_0 (by decide)) (ce_X7 E _ _ _ _ kk_0) (show vwCl[7]? = some (RX7, TX7, 11) from rfl) rfl hl.1 rfl (Nat.le_of_ble_eq_true rfl) dX7_mark_66 (fun H locs hw => ?_)
          replace hf := Option.some.inj hf
          subst hf
          exact eI X hw hr hlk dX7_mark_69
        · replace hf := (if_neg c64).symm.trans hf
          by_cases c67 : x1 = 3
          · replace hf := (if_pos c67).symm.trans hf
            refine lv_tableIn (tgt := 70) (off := 58) hx hb dX7_mark_12 (by rw [c67]; decide) (by rw [c67]; decide) (by rw [c67]; rfl) (by decide) ?_
            refine lv_aload_n hx hb dX7_mark_70 rfl (lv_at hl 0 rfl) ?_
            refine lv_iload_n hx hb dX7_mark_71 rfl (lv_at hl 2 rfl) ?_
            obtain ⟨u68, q69, hf⟩ := ob hf
            refine cVi (As := [.int x2]) X hw (ctX7_markWig l E b  q69) ⟨mw_680, mw_682, mw_27, mw_52, mw_683⟩ hd_X7_markWig ⟨Nat.le_of_ble_eq_true rfl, Nat.le_of_ble_eq_true rfl, rfl, rfl⟩ (kdk kk_0 (by decide)) (ce_X7 E _ _ _ _ kk_0) (show vwCl[7]? = some (RX7, TX7, 11) from rfl) rfl hl.1 rfl (Nat.le_of_ble_eq_true rfl) dX7_mark_72 (fun H locs hw => ?_)
            replace hf := Option.some.inj hf
            subst hf
            exact eI X hw hr hlk dX7_mark_75
          · replace hf := (if_neg c67).symm.trans hf
            by_cases c70 : x1 = 4
            · replace hf := (if_pos c70).symm.trans hf
              refine lv_tableIn (tgt := 76) (off := 64) hx hb dX7_mark_12 (by rw [c70]; decide) (by rw [c70]; decide) (by rw [c70]; rfl) (by decide) ?_
              refine lv_aload_n hx hb dX7_mark_76 rfl (lv_at hl 0 rfl) ?_
              refine lv_iload_n hx hb dX7_mark_77 rfl (lv_at hl 2 rfl) ?_
              obtain ⟨u71, q72, hf⟩ := ob hf
              refine cVi (As := [.int x2]) X hw (ctX7_markNun l E b  q72) ⟨mw_685, mw_687, mw_28, mw_52, mw_688⟩ hd_X7_markNun ⟨Nat.le_of_ble_eq_true rfl, Nat.le_of_ble_eq_true rfl, rfl, rfl⟩ (kdk kk_0 (by decide)) (ce_X7 E _ _ _ _ kk_0) (show vwCl[7]? = some (RX7, TX7, 11) from rfl) rfl hl.1 rfl (Nat.le_of_ble_eq_true rfl) dX7_mark_78 (fun H locs hw => ?_)
              replace hf := Option.some.inj hf
              subst hf
              exact eI X hw hr hlk dX7_mark_81
            · replace hf := (if_neg c70).symm.trans hf
              by_cases c73 : x1 = 5
              · replace hf := (if_pos c73).symm.trans hf
                refine lv_tableIn (tgt := 82) (off := 70) hx hb dX7_mark_12 (by rw [c73]; decide) (by rw [c73]; decide) (by rw [c73]; rfl) (by decide) ?_
                refine lv_aload_n hx hb dX7_mark_82 rfl (lv_at hl 0 rfl) ?_
                refine lv_iload_n hx hb dX7_mark_83 rfl (lv_at hl 2 rfl) ?_
                obtain ⟨u74, q75, hf⟩ := ob hf
                refine cVi (As := [.int x2]) X hw (ctX7_markBald l E b  q75) ⟨mw_690, mw_692, mw_29, mw_52, mw_693⟩ hd_X7_markBald ⟨Nat.le_of_ble_eq_true rfl, Nat.le_of_ble_eq_true rfl, rfl, rfl⟩ (kdk kk_0 (by decide)) (ce_X7 E _ _ _ _ kk_0) (show vwCl[7]? = some (RX7, TX7, 11) from rfl) rfl hl.1 rfl (Nat.le_of_ble_eq_true rfl) dX7_mark_84 (fun H locs hw => ?_)
                replace hf := Option.some.inj hf
                subst hf
                exact eI X hw hr hlk dX7_mark_87
              · replace hf := (if_neg c73).symm.trans hf
                have nc58 : x1.toInt ≠ 0 := fun q => c58 (Int32.toInt_inj.mp (q.trans (by decide)))
                have nc61 : x1.toInt ≠ 1 := fun q => c61 (Int32.toInt_inj.mp (q.trans (by decide)))
                have nc64 : x1.toInt ≠ 2 := fun q => c64 (Int32.toInt_inj.mp (q.trans (by decide)))
                have nc67 : x1.toInt ≠ 3 := fun q => c67 (Int32.toInt_inj.mp (q.trans (by decide)))
                have nc70 : x1.toInt ≠ 4 := fun q => c70 (Int32.toInt_inj.mp (q.trans (by decide)))
                have nc73 : x1.toInt ≠ 5 := fun q => c73 (Int32.toInt_inj.mp (q.trans (by decide)))
                refine lv_tableOut (tgt := 88) hx hb dX7_mark_12 (by omega) (by decide) ?_
                refine lv_ldc (v := (-1000000)) hx hb X.2.2.2.1 (X.2.2.2.2.1 _ mw_661) dX7_mark_88 ?_
                replace hf := Option.some.inj hf
                subst hf
                exact eI X hw hr hlk dX7_mark_90
  · replace hf := (if_pos c57).symm.trans hf
    refine lv_ldc (v := (-1000000)) hx hb X.2.2.2.1 (X.2.2.2.2.1 _ mw_661) dX7_mark_8 ?_
    replace hf := Option.some.inj hf
    subst hf
    exact eI X hw hr hlk dX7_mark_10

abbrev rmX7_keep : Room := { frames := 3, cells := 0, slots := 0, locals := 103 }
theorem hd_X7_keep : Hd yX7_keep RX7 1 := by decide +kernel
def gX7_keep (x1 : Int32) (M : Mem) : Option (Int32 × Mem) := (gX7_within x1 0 1).bind fun u76 => if u76 = 0 then (some ((-1), M)) else ((ldR 7 2 (M 65) x1).bind fun v79 => (gX5_copyFrom v79.toNatClampNeg 8 M).bind fun u81 => (stZ 2 u81 180 x1 1).bind fun M83 => some (M83 9 4, M83))
set_option maxHeartbeats 4000000 in
set_option maxRecDepth 100000 in
theorem ctX7_keep (l : Launch) (E : EE) (b : Nat) {TC : Int64} {MM : Mem} {TM : Int64} {x1 : Int32} {M : Mem} {res : Int32 × Mem}  (hf : gX7_keep x1 M = some res) : MetI l E b yX7_keep (.code yX7_keep cX7_keep 2 (some .int)) rmX7_keep [.ref (b + 0), .int x1] M TC MM TM res.1 res.2 TC MM TM := by
  refine Met.ofW (cc := cX7_keep) (maxL := 2) (ret := (some .int)) (by decide) rfl ?_
  intro p e s m args below meth c s₁ B hml hv
  obtain ⟨rfl, hP, hK⟩ := hv
  have hx := B.exec
  have hb := B.bytes
  have X : CX E p s m _ c cX7_keep 2 RX7 := ⟨hx, hb, hml, findClass_of_methodNamed B.named, fun w h => atoms_spec (ws := _ :: wt) B.pre w (List.mem_cons_of_mem _ h), hK⟩
  have hr := B.returns
  have hlk := B.notSynchronized
  have hw : WW E b M TC MM TM s s.heap [] := ⟨hP, va_S.rf⟩
  have hl := lv_entry ([.ref (b + 0), .int x1]) (n := 2) (Nat.le_of_ble_eq_true rfl)
  rw [lg_entry_eq]
  generalize (lg_sl ([.ref (b + 0), .int x1]) ++ List.replicate (2 - (lg_sl ([.ref (b + 0), .int x1])).length) Slot.unset).toArray = ls at hl ⊢
  have hl : lv_has ls 2 [(0, .ref (b + 0)), (1, .int x1)] := hl
  obtain ⟨H, hH⟩ : ∃ H, H = s.heap := ⟨_, rfl⟩
  obtain ⟨locs, hL⟩ : ∃ L : List Loc, L = [] := ⟨_, rfl⟩
  rw [← hH, ← hL] at hw
  suffices hg : W p l e rmX7_keep s m _ below meth c H locs 0 0 (MQ below (va_Qi (fun x (_ : Unit) => x = res.1) (fun _ t => PW E b res.2 TC MM TM t) (AA b)) _ s 0 0 (AA b)) (F0 m 0 ls []) by rw [hH, hL] at hg; exact hg
  clear hH hL
  rw [gX7_keep] at hf
  refine lv_iload_n hx hb dX7_keep_0 rfl (lv_at hl 1 rfl) ?_
  refine lv_iconst (v := 0) hx hb dX7_keep_1 (by decide) ?_
  refine lv_iconst (v := 1) hx hb dX7_keep_2 (by decide) ?_
  obtain ⟨u76, q77, hf⟩ := ob hf
  refine cSi (As := [.int x1, .int 0, .int 1]) X hw (ctX7_within l E b  q77) ⟨mw_316, mw_317, mw_52, mw_318⟩ hd_X7_within ⟨Nat.le_of_ble_eq_true rfl, Nat.le_of_ble_eq_true rfl, rfl, rfl⟩ rfl hl.1 rfl (Nat.le_of_ble_eq_true rfl) dX7_keep_3 (fun H locs hw => ?_)
  refine lv_if_ne (tgt := 11) hx hb dX7_keep_6 (by decide) (fun c78 => ?_) (fun c78 => ?_)
  · replace hf := (if_neg c78).symm.trans hf
    refine lv_aload_n hx hb dX7_keep_11 rfl (lv_at hl 0 rfl) ?_
    refine gt_X7 X hw 3 kk_0 rfl (by decide) mw_281 rfl dX7_keep_12 ?_
    refine lv_iload_n hx hb dX7_keep_15 rfl (lv_at hl 1 rfl) ?_
    obtain ⟨v79, q80, hf⟩ := ob hf
    refine rldT X hw kdv_65 q80 dX7_keep_16 ?_
    refine lv_aload_n hx hb dX7_keep_17 rfl (lv_at hl 0 rfl) ?_
    refine gt_X7 X hw 2 kk_0 rfl (by decide) mw_280 rfl dX7_keep_18 ?_
    obtain ⟨u81, q82, hf⟩ := ob hf
    refine cVv (As := [.ref (b + 8)]) X hw (ctX5_copyFrom l E b (ldR_s q80).2.2 kk_8 q82) ⟨mw_699, mw_700, mw_701, mw_56, mw_702⟩ hd_X5_copyFrom ⟨Nat.le_of_ble_eq_true rfl, Nat.le_of_ble_eq_true rfl, rfl, rfl⟩ (kdk (ldR_s q80).2.2 (by decide)) (ce_X5 E _ _ _ _ (ldR_s q80).2.2) (show vwCl[5]? = some (RX5, TX5, 3) from rfl) rfl hl.1 rfl (Nat.le_of_ble_eq_true rfl) dX7_keep_21 (fun H locs hw => ?_)
    refine lv_aload_n hx hb dX7_keep_24 rfl (lv_at hl 0 rfl) ?_
    refine gt_X7 X hw 4 kk_0 rfl (by decide) mw_282 rfl dX7_keep_25 ?_
    refine lv_iload_n hx hb dX7_keep_28 rfl (lv_at hl 1 rfl) ?_
    refine lv_iconst (v := 1) hx hb dX7_keep_29 (by decide) ?_
    obtain ⟨M83, q84, hf⟩ := ob hf
    refine zstC X hw kdv_180 q84 dX7_keep_30 (fun H locs hw => ?_)
    refine lv_aload_n hx hb dX7_keep_31 rfl (lv_at hl 0 rfl) ?_
    refine gt_X7 X hw 2 kk_0 rfl (by decide) mw_280 rfl dX7_keep_32 ?_
    refine gt_X5 X hw 0 kk_8 rfl (by decide) mw_205 rfl dX7_keep_35 ?_
    refine gt_X1 X hw 4 kk_9 rfl (by decide) mw_187 rfl dX7_keep_38 ?_
    replace hf := Option.some.inj hf
    subst hf
    exact eI X hw hr hlk dX7_keep_41
  · replace hf := (if_pos c78).symm.trans hf
    refine lv_iconst (v := (-1)) hx hb dX7_keep_9 (by decide) ?_
    replace hf := Option.some.inj hf
    subst hf
    exact eI X hw hr hlk dX7_keep_10

abbrev rmX7_back : Room := { frames := 3, cells := 0, slots := 0, locals := 103 }
theorem hd_X7_back : Hd yX7_back RX7 1 := by decide +kernel
def gX7_back (x1 : Int32) (M : Mem) : Option (Int32 × Mem) := (gX7_within x1 0 1).bind fun u85 => if u85 = 0 then (some ((-1), M)) else ((ldA 2 (M 180) x1).bind fun v88 => if v88 = 0 then (some ((-2), M)) else ((ldR 7 2 (M 65) x1).bind fun v91 => (gX5_copyFrom 8 v91.toNatClampNeg M).bind fun u93 => some (u93 9 4, u93)))
set_option maxHeartbeats 4000000 in
set_option maxRecDepth 100000 in
theorem ctX7_back (l : Launch) (E : EE) (b : Nat) {TC : Int64} {MM : Mem} {TM : Int64} {x1 : Int32} {M : Mem} {res : Int32 × Mem}  (hf : gX7_back x1 M = some res) : MetI l E b yX7_back (.code yX7_back cX7_back 2 (some .int)) rmX7_back [.ref (b + 0), .int x1] M TC MM TM res.1 res.2 TC MM TM := by
  refine Met.ofW (cc := cX7_back) (maxL := 2) (ret := (some .int)) (by decide) rfl ?_
  intro p e s m args below meth c s₁ B hml hv
  obtain ⟨rfl, hP, hK⟩ := hv
  have hx := B.exec
  have hb := B.bytes
  have X : CX E p s m _ c cX7_back 2 RX7 := ⟨hx, hb, hml, findClass_of_methodNamed B.named, fun w h => atoms_spec (ws := _ :: wt) B.pre w (List.mem_cons_of_mem _ h), hK⟩
  have hr := B.returns
  have hlk := B.notSynchronized
  have hw : WW E b M TC MM TM s s.heap [] := ⟨hP, va_S.rf⟩
  have hl := lv_entry ([.ref (b + 0), .int x1]) (n := 2) (Nat.le_of_ble_eq_true rfl)
  rw [lg_entry_eq]
  generalize (lg_sl ([.ref (b + 0), .int x1]) ++ List.replicate (2 - (lg_sl ([.ref (b + 0), .int x1])).length) Slot.unset).toArray = ls at hl ⊢
  have hl : lv_has ls 2 [(0, .ref (b + 0)), (1, .int x1)] := hl
  obtain ⟨H, hH⟩ : ∃ H, H = s.heap := ⟨_, rfl⟩
  obtain ⟨locs, hL⟩ : ∃ L : List Loc, L = [] := ⟨_, rfl⟩
  rw [← hH, ← hL] at hw
  suffices hg : W p l e rmX7_back s m _ below meth c H locs 0 0 (MQ below (va_Qi (fun x (_ : Unit) => x = res.1) (fun _ t => PW E b res.2 TC MM TM t) (AA b)) _ s 0 0 (AA b)) (F0 m 0 ls []) by rw [hH, hL] at hg; exact hg
  clear hH hL
  rw [gX7_back] at hf
  refine lv_iload_n hx hb dX7_back_0 rfl (lv_at hl 1 rfl) ?_
  refine lv_iconst (v := 0) hx hb dX7_back_1 (by decide) ?_
  refine lv_iconst (v := 1) hx hb dX7_back_2 (by decide) ?_
  obtain ⟨u85, q86, hf⟩ := ob hf
  refine cSi (As := [.int x1, .int 0, .int 1]) X hw (ctX7_within l E b  q86) ⟨mw_316, mw_317, mw_52, mw_318⟩ hd_X7_within ⟨Nat.le_of_ble_eq_true rfl, Nat.le_of_ble_eq_true rfl, rfl, rfl⟩ rfl hl.1 rfl (Nat.le_of_ble_eq_true rfl) dX7_back_3 (fun H locs hw => ?_)
  refine lv_if_ne (tgt := 11) hx hb dX7_back_6 (by decide) (fun c87 => ?_) (fun c87 => ?_)
  · replace hf := (if_neg c87).symm.trans hf
    refine lv_aload_n hx hb dX7_back_11 rfl (lv_at hl 0 rfl) ?_
    refine gt_X7 X hw 4 kk_0 rfl (by decide) mw_282 rfl dX7_back_12 ?_
    refine lv_iload_n hx hb dX7_back_15 rfl (lv_at hl 1 rfl) ?_
    obtain ⟨v88, q89, hf⟩ := ob hf
    refine zldC X hw kdv_180 q89 dX7_back_16 ?_
    refine lv_if_ne (tgt := 23) hx hb dX7_back_17 (by decide) (fun c90 => ?_) (fun c90 => ?_)
    · replace hf := (if_neg c90).symm.trans hf
      refine lv_aload_n hx hb dX7_back_23 rfl (lv_at hl 0 rfl) ?_
      refine gt_X7 X hw 2 kk_0 rfl (by decide) mw_280 rfl dX7_back_24 ?_
      refine lv_aload_n hx hb dX7_back_27 rfl (lv_at hl 0 rfl) ?_
      refine gt_X7 X hw 3 kk_0 rfl (by decide) mw_281 rfl dX7_back_28 ?_
      refine lv_iload_n hx hb dX7_back_31 rfl (lv_at hl 1 rfl) ?_
      obtain ⟨v91, q92, hf⟩ := ob hf
      refine rldT X hw kdv_65 q92 dX7_back_32 ?_
      obtain ⟨u93, q94, hf⟩ := ob hf
      refine cVv (As := [.ref (b + v91.toNatClampNeg)]) X hw (ctX5_copyFrom l E b kk_8 (ldR_s q92).2.2 q94) ⟨mw_699, mw_700, mw_701, mw_56, mw_702⟩ hd_X5_copyFrom ⟨Nat.le_of_ble_eq_true rfl, Nat.le_of_ble_eq_true rfl, rfl, rfl⟩ (kdk kk_8 (by decide)) (ce_X5 E _ _ _ _ kk_8) (show vwCl[5]? = some (RX5, TX5, 3) from rfl) rfl hl.1 rfl (Nat.le_of_ble_eq_true rfl) dX7_back_33 (fun H locs hw => ?_)
      refine lv_aload_n hx hb dX7_back_36 rfl (lv_at hl 0 rfl) ?_
      refine gt_X7 X hw 2 kk_0 rfl (by decide) mw_280 rfl dX7_back_37 ?_
      refine gt_X5 X hw 0 kk_8 rfl (by decide) mw_205 rfl dX7_back_40 ?_
      refine gt_X1 X hw 4 kk_9 rfl (by decide) mw_187 rfl dX7_back_43 ?_
      replace hf := Option.some.inj hf
      subst hf
      exact eI X hw hr hlk dX7_back_46
    · replace hf := (if_pos c90).symm.trans hf
      refine lv_bipush (v := (-2)) hx hb dX7_back_20 (by decide) ?_
      replace hf := Option.some.inj hf
      subst hf
      exact eI X hw hr hlk dX7_back_22
  · replace hf := (if_pos c87).symm.trans hf
    refine lv_iconst (v := (-1)) hx hb dX7_back_9 (by decide) ?_
    replace hf := Option.some.inj hf
    subst hf
    exact eI X hw hr hlk dX7_back_10

abbrev rmX7_count : Room := { frames := 0, cells := 0, slots := 0, locals := 0 }
theorem hd_X7_count : Hd yX7_count RX7 1 := by decide +kernel
def gX7_count (x1 : Int32) (M : Mem) : Option (Int32) := if x1 = 0 then (some (M 191 3)) else (if x1 = 1 then (some (M 191 4)) else (if x1 = 2 then (some (M 181 3)) else (if x1 = 3 then (some (M 181 4)) else (if x1 = 4 then (some (M 8 2)) else (if x1 = 5 then (some (M 2 1)) else (some ((-1))))))))
set_option maxHeartbeats 4000000 in
set_option maxRecDepth 100000 in
theorem ctX7_count (l : Launch) (E : EE) (b : Nat) {TC : Int64} {MM : Mem} {TM : Int64} {x1 : Int32} {M : Mem} {res : Int32}  (hf : gX7_count x1 M = some res) : MetI l E b yX7_count (.code yX7_count cX7_count 2 (some .int)) rmX7_count [.ref (b + 0), .int x1] M TC MM TM res M TC MM TM := by
  refine Met.ofW (cc := cX7_count) (maxL := 2) (ret := (some .int)) (by decide) rfl ?_
  intro p e s m args below meth c s₁ B hml hv
  obtain ⟨rfl, hP, hK⟩ := hv
  have hx := B.exec
  have hb := B.bytes
  have X : CX E p s m _ c cX7_count 2 RX7 := ⟨hx, hb, hml, findClass_of_methodNamed B.named, fun w h => atoms_spec (ws := _ :: wt) B.pre w (List.mem_cons_of_mem _ h), hK⟩
  have hr := B.returns
  have hlk := B.notSynchronized
  have hw : WW E b M TC MM TM s s.heap [] := ⟨hP, va_S.rf⟩
  have hl := lv_entry ([.ref (b + 0), .int x1]) (n := 2) (Nat.le_of_ble_eq_true rfl)
  rw [lg_entry_eq]
  generalize (lg_sl ([.ref (b + 0), .int x1]) ++ List.replicate (2 - (lg_sl ([.ref (b + 0), .int x1])).length) Slot.unset).toArray = ls at hl ⊢
  have hl : lv_has ls 2 [(0, .ref (b + 0)), (1, .int x1)] := hl
  obtain ⟨H, hH⟩ : ∃ H, H = s.heap := ⟨_, rfl⟩
  obtain ⟨locs, hL⟩ : ∃ L : List Loc, L = [] := ⟨_, rfl⟩
  rw [← hH, ← hL] at hw
  suffices hg : W p l e rmX7_count s m _ below meth c H locs 0 0 (MQ below (va_Qi (fun x (_ : Unit) => x = res) (fun _ t => PW E b M TC MM TM t) (AA b)) _ s 0 0 (AA b)) (F0 m 0 ls []) by rw [hH, hL] at hg; exact hg
  clear hH hL
  rw [gX7_count] at hf
  refine lv_iload_n hx hb dX7_count_0 rfl (lv_at hl 1 rfl) ?_
  by_cases c95 : x1 = 0
  · replace hf := (if_pos c95).symm.trans hf
    refine lv_tableIn (tgt := 40) (off := 39) hx hb dX7_count_1 (by rw [c95]; decide) (by rw [c95]; decide) (by rw [c95]; rfl) (by decide) ?_
    refine lv_aload_n hx hb dX7_count_40 rfl (lv_at hl 0 rfl) ?_
    refine gt_X7 X hw 7 kk_0 rfl (by decide) mw_285 rfl dX7_count_41 ?_
    refine gt_X6 X hw 3 kk_191 rfl (by decide) mw_114 rfl dX7_count_44 ?_
    replace hf := Option.some.inj hf
    subst hf
    exact eI X hw hr hlk dX7_count_47
  · replace hf := (if_neg c95).symm.trans hf
    by_cases c96 : x1 = 1
    · replace hf := (if_pos c96).symm.trans hf
      refine lv_tableIn (tgt := 48) (off := 47) hx hb dX7_count_1 (by rw [c96]; decide) (by rw [c96]; decide) (by rw [c96]; rfl) (by decide) ?_
      refine lv_aload_n hx hb dX7_count_48 rfl (lv_at hl 0 rfl) ?_
      refine gt_X7 X hw 7 kk_0 rfl (by decide) mw_285 rfl dX7_count_49 ?_
      refine gt_X6 X hw 4 kk_191 rfl (by decide) mw_119 rfl dX7_count_52 ?_
      replace hf := Option.some.inj hf
      subst hf
      exact eI X hw hr hlk dX7_count_55
    · replace hf := (if_neg c96).symm.trans hf
      by_cases c97 : x1 = 2
      · replace hf := (if_pos c97).symm.trans hf
        refine lv_tableIn (tgt := 56) (off := 55) hx hb dX7_count_1 (by rw [c97]; decide) (by rw [c97]; decide) (by rw [c97]; rfl) (by decide) ?_
        refine lv_aload_n hx hb dX7_count_56 rfl (lv_at hl 0 rfl) ?_
        refine gt_X7 X hw 5 kk_0 rfl (by decide) mw_283 rfl dX7_count_57 ?_
        refine gt_X0 X hw 3 kk_181 rfl (by decide) mw_230 rfl dX7_count_60 ?_
        replace hf := Option.some.inj hf
        subst hf
        exact eI X hw hr hlk dX7_count_63
      · replace hf := (if_neg c97).symm.trans hf
        by_cases c98 : x1 = 3
        · replace hf := (if_pos c98).symm.trans hf
          refine lv_tableIn (tgt := 64) (off := 63) hx hb dX7_count_1 (by rw [c98]; decide) (by rw [c98]; decide) (by rw [c98]; rfl) (by decide) ?_
          refine lv_aload_n hx hb dX7_count_64 rfl (lv_at hl 0 rfl) ?_
          refine gt_X7 X hw 5 kk_0 rfl (by decide) mw_283 rfl dX7_count_65 ?_
          refine gt_X0 X hw 4 kk_181 rfl (by decide) mw_232 rfl dX7_count_68 ?_
          replace hf := Option.some.inj hf
          subst hf
          exact eI X hw hr hlk dX7_count_71
        · replace hf := (if_neg c98).symm.trans hf
          by_cases c99 : x1 = 4
          · replace hf := (if_pos c99).symm.trans hf
            refine lv_tableIn (tgt := 72) (off := 71) hx hb dX7_count_1 (by rw [c99]; decide) (by rw [c99]; decide) (by rw [c99]; rfl) (by decide) ?_
            refine lv_aload_n hx hb dX7_count_72 rfl (lv_at hl 0 rfl) ?_
            refine gt_X7 X hw 2 kk_0 rfl (by decide) mw_280 rfl dX7_count_73 ?_
            refine gt_X5 X hw 2 kk_8 rfl (by decide) mw_208 rfl dX7_count_76 ?_
            replace hf := Option.some.inj hf
            subst hf
            exact eI X hw hr hlk dX7_count_79
          · replace hf := (if_neg c99).symm.trans hf
            by_cases c100 : x1 = 5
            · replace hf := (if_pos c100).symm.trans hf
              refine lv_tableIn (tgt := 80) (off := 79) hx hb dX7_count_1 (by rw [c100]; decide) (by rw [c100]; decide) (by rw [c100]; rfl) (by decide) ?_
              refine lv_aload_n hx hb dX7_count_80 rfl (lv_at hl 0 rfl) ?_
              refine gt_X7 X hw 0 kk_0 rfl (by decide) mw_278 rfl dX7_count_81 ?_
              refine gt_X4 X hw 1 kk_2 rfl (by decide) mw_88 rfl dX7_count_84 ?_
              replace hf := Option.some.inj hf
              subst hf
              exact eI X hw hr hlk dX7_count_87
            · replace hf := (if_neg c100).symm.trans hf
              have nc95 : x1.toInt ≠ 0 := fun q => c95 (Int32.toInt_inj.mp (q.trans (by decide)))
              have nc96 : x1.toInt ≠ 1 := fun q => c96 (Int32.toInt_inj.mp (q.trans (by decide)))
              have nc97 : x1.toInt ≠ 2 := fun q => c97 (Int32.toInt_inj.mp (q.trans (by decide)))
              have nc98 : x1.toInt ≠ 3 := fun q => c98 (Int32.toInt_inj.mp (q.trans (by decide)))
              have nc99 : x1.toInt ≠ 4 := fun q => c99 (Int32.toInt_inj.mp (q.trans (by decide)))
              have nc100 : x1.toInt ≠ 5 := fun q => c100 (Int32.toInt_inj.mp (q.trans (by decide)))
              refine lv_tableOut (tgt := 88) hx hb dX7_count_1 (by omega) (by decide) ?_
              refine lv_iconst (v := (-1)) hx hb dX7_count_88 (by decide) ?_
              replace hf := Option.some.inj hf
              subst hf
              exact eI X hw hr hlk dX7_count_89

abbrev rmX7_trace : Room := { frames := 0, cells := 0, slots := 0, locals := 0 }
theorem hd_X7_trace : Hd yX7_trace RX7 0 := by decide +kernel
def gX7_trace (T : Int64) : Option (Int64) := some (T)
set_option maxHeartbeats 4000000 in
set_option maxRecDepth 100000 in
theorem ctX7_trace (l : Launch) (E : EE) (b : Nat) {MC : Mem} {MM : Mem} {TM : Int64} {T : Int64} {res : Int64}  (hf : gX7_trace T = some res) : MetL l E b yX7_trace (.code yX7_trace cX7_trace 1 (some .long)) rmX7_trace [.ref (b + 0)] MC T MM TM res MC T MM TM := by
  refine Met.ofW (cc := cX7_trace) (maxL := 1) (ret := (some .long)) (by decide) rfl ?_
  intro p e s m args below meth c s₁ B hml hv
  obtain ⟨rfl, hP, hK⟩ := hv
  have hx := B.exec
  have hb := B.bytes
  have X : CX E p s m _ c cX7_trace 1 RX7 := ⟨hx, hb, hml, findClass_of_methodNamed B.named, fun w h => atoms_spec (ws := _ :: wt) B.pre w (List.mem_cons_of_mem _ h), hK⟩
  have hr := B.returns
  have hlk := B.notSynchronized
  have hw : WW E b MC T MM TM s s.heap [] := ⟨hP, va_S.rf⟩
  have hl := lv_entry ([.ref (b + 0)]) (n := 1) (Nat.le_of_ble_eq_true rfl)
  rw [lg_entry_eq]
  generalize (lg_sl ([.ref (b + 0)]) ++ List.replicate (1 - (lg_sl ([.ref (b + 0)])).length) Slot.unset).toArray = ls at hl ⊢
  have hl : lv_has ls 1 [(0, .ref (b + 0))] := hl
  obtain ⟨H, hH⟩ : ∃ H, H = s.heap := ⟨_, rfl⟩
  obtain ⟨locs, hL⟩ : ∃ L : List Loc, L = [] := ⟨_, rfl⟩
  rw [← hH, ← hL] at hw
  suffices hg : W p l e rmX7_trace s m _ below meth c H locs 0 0 (MQ below (va_Ql (fun x (_ : Unit) => x = res) (fun _ t => PW E b MC T MM TM t) (AA b)) _ s 0 0 (AA b)) (F0 m 0 ls []) by rw [hH, hL] at hg; exact hg
  clear hH hL
  rw [gX7_trace] at hf
  refine lv_aload_n hx hb dX7_trace_0 rfl (lv_at hl 0 rfl) ?_
  refine gt_X7 X hw 10 kk_0 rfl (by decide) mw_288 rfl dX7_trace_1 ?_
  replace hf := Option.some.inj hf
  subst hf
  exact eL X hw hr hlk dX7_trace_4

abbrev rmX8_in : Room := { frames := 0, cells := 0, slots := 0, locals := 0 }
theorem hd_X8_in : Hd yX8_in RX8 3 := by decide +kernel
def gX8_in_15   (y0 : Int32) : Option (Int32) := (zr y0).bind fun v102 => some (v102)
def gX8_in (x0 : Int32) (x1 : Int32) (x2 : Int32) : Option (Int32) := if x0 < x1 then (gX8_in_15 0) else (if x2 < x0 then (gX8_in_15 0) else (gX8_in_15 1))
set_option maxHeartbeats 4000000 in
set_option maxRecDepth 100000 in
theorem tX8_in_15 {p : Program} {l : Launch} {e : Env} {s : State} {m : MethodId} {args : Array Value} {below : List Frame} {meth : Method} {c : Code} {E : EE} {b : Nat} {MC : Mem} {TC : Int64} {MM : Mem} {TM : Int64} {res : Int32} (X : CX E p s m args c cX8_in 3 RX8) (hr : meth.sig.returnType = (some .boolean)) (hlk : meth.locks = false)    : ∀ (y0 : Int32), gX8_in_15 y0 = some res → ∀ (H : Heap) (locs : List Loc) (ls : Array Slot), WW E b MC TC MM TM s H locs → lv_has ls 3 [] → W p l e rmX8_in s m args below meth c H locs 0 0 (MQ below (va_Qi (fun x (_ : Unit) => x = res) (fun _ t => PW E b MC TC MM TM t) (AA b)) args s 0 0 (AA b)) (F0 m 15 ls [.int y0]) := by
  have hx := X.1
  have hb := X.2.1
  intro y0 hf H locs ls hw hl
  rw [gX8_in_15] at hf
  obtain ⟨v102, q103, hf⟩ := ob hf
  obtain ⟨eq103, q103⟩ := zr_s q103
  rw [eq103]
  replace hf := Option.some.inj hf
  subst hf
  exact eZ X hw q103 hr hlk dX8_in_15
set_option maxHeartbeats 4000000 in
set_option maxRecDepth 100000 in
theorem ctX8_in (l : Launch) (E : EE) (b : Nat) {MC : Mem} {TC : Int64} {MM : Mem} {TM : Int64} {x0 : Int32} {x1 : Int32} {x2 : Int32} {res : Int32}  (hf : gX8_in x0 x1 x2 = some res) : MetI l E b yX8_in (.code yX8_in cX8_in 3 (some .boolean)) rmX8_in [.int x0, .int x1, .int x2] MC TC MM TM res MC TC MM TM := by
  refine Met.ofW (cc := cX8_in) (maxL := 3) (ret := (some .boolean)) (by decide) rfl ?_
  intro p e s m args below meth c s₁ B hml hv
  obtain ⟨rfl, hP, hK⟩ := hv
  have hx := B.exec
  have hb := B.bytes
  have X : CX E p s m _ c cX8_in 3 RX8 := ⟨hx, hb, hml, findClass_of_methodNamed B.named, fun w h => atoms_spec (ws := _ :: wt) B.pre w (List.mem_cons_of_mem _ h), hK⟩
  have hr := B.returns
  have hlk := B.notSynchronized
  have hw : WW E b MC TC MM TM s s.heap [] := ⟨hP, va_S.rf⟩
  have hl := lv_entry ([.int x0, .int x1, .int x2]) (n := 3) (Nat.le_of_ble_eq_true rfl)
  rw [lg_entry_eq]
  generalize (lg_sl ([.int x0, .int x1, .int x2]) ++ List.replicate (3 - (lg_sl ([.int x0, .int x1, .int x2])).length) Slot.unset).toArray = ls at hl ⊢
  have hl : lv_has ls 3 [(0, .int x0), (1, .int x1), (2, .int x2)] := hl
  obtain ⟨H, hH⟩ : ∃ H, H = s.heap := ⟨_, rfl⟩
  obtain ⟨locs, hL⟩ : ∃ L : List Loc, L = [] := ⟨_, rfl⟩
  rw [← hH, ← hL] at hw
  suffices hg : W p l e rmX8_in s m _ below meth c H locs 0 0 (MQ below (va_Qi (fun x (_ : Unit) => x = res) (fun _ t => PW E b MC TC MM TM t) (AA b)) _ s 0 0 (AA b)) (F0 m 0 ls []) by rw [hH, hL] at hg; exact hg
  clear hH hL
  rw [gX8_in] at hf
  refine lv_iload_n hx hb dX8_in_0 rfl (lv_at hl 0 rfl) ?_
  refine lv_iload_n hx hb dX8_in_1 rfl (lv_at hl 1 rfl) ?_
  refine lv_icmp_lt (tgt := 14) hx hb dX8_in_2 (by decide) (fun c101 => ?_) (fun c101 => ?_)
  · replace hf := (if_pos c101).symm.trans hf
    refine lv_iconst (v := 0) hx hb dX8_in_14 (by decide) ?_
    exact tX8_in_15 X hr hlk 0 hf H locs ls hw (lv_sub hl [] rfl)
  · replace hf := (if_neg c101).symm.trans hf
    refine lv_iload_n hx hb dX8_in_5 rfl (lv_at hl 0 rfl) ?_
    refine lv_iload_n hx hb dX8_in_6 rfl (lv_at hl 2 rfl) ?_
    refine lv_icmp_gt (tgt := 14) hx hb dX8_in_7 (by decide) (fun c104 => ?_) (fun c104 => ?_)
    · replace hf := (if_pos c104).symm.trans hf
      refine lv_iconst (v := 0) hx hb dX8_in_14 (by decide) ?_
      exact tX8_in_15 X hr hlk 0 hf H locs ls hw (lv_sub hl [] rfl)
    · replace hf := (if_neg c104).symm.trans hf
      refine lv_iconst (v := 1) hx hb dX8_in_10 (by decide) ?_
      refine lv_goto (tgt := 15) hx hb dX8_in_11 (by decide) ?_
      exact tX8_in_15 X hr hlk 1 hf H locs ls hw (lv_sub hl [] rfl)

abbrev rmX8_has : Room := { frames := 0, cells := 0, slots := 0, locals := 0 }
theorem hd_X8_has : Hd yX8_has RX8 2 := by decide +kernel
def gX8_has_14   (y0 : Int32) : Option (Int32) := (zr y0).bind fun v106 => some (v106)
def gX8_has (x0 : Int32) (x1 : Int32) : Option (Int32) := if ((x0 >>> (x1 &&& 31)) &&& 1) = 1 then (gX8_has_14 1) else (gX8_has_14 0)
set_option maxHeartbeats 4000000 in
set_option maxRecDepth 100000 in
theorem tX8_has_14 {p : Program} {l : Launch} {e : Env} {s : State} {m : MethodId} {args : Array Value} {below : List Frame} {meth : Method} {c : Code} {E : EE} {b : Nat} {MC : Mem} {TC : Int64} {MM : Mem} {TM : Int64} {res : Int32} (X : CX E p s m args c cX8_has 2 RX8) (hr : meth.sig.returnType = (some .boolean)) (hlk : meth.locks = false)    : ∀ (y0 : Int32), gX8_has_14 y0 = some res → ∀ (H : Heap) (locs : List Loc) (ls : Array Slot), WW E b MC TC MM TM s H locs → lv_has ls 2 [] → W p l e rmX8_has s m args below meth c H locs 0 0 (MQ below (va_Qi (fun x (_ : Unit) => x = res) (fun _ t => PW E b MC TC MM TM t) (AA b)) args s 0 0 (AA b)) (F0 m 14 ls [.int y0]) := by
  have hx := X.1
  have hb := X.2.1
  intro y0 hf H locs ls hw hl
  rw [gX8_has_14] at hf
  obtain ⟨v106, q107, hf⟩ := ob hf
  obtain ⟨eq107, q107⟩ := zr_s q107
  rw [eq107]
  replace hf := Option.some.inj hf
  subst hf
  exact eZ X hw q107 hr hlk dX8_has_14
set_option maxHeartbeats 4000000 in
set_option maxRecDepth 100000 in
theorem ctX8_has (l : Launch) (E : EE) (b : Nat) {MC : Mem} {TC : Int64} {MM : Mem} {TM : Int64} {x0 : Int32} {x1 : Int32} {res : Int32}  (hf : gX8_has x0 x1 = some res) : MetI l E b yX8_has (.code yX8_has cX8_has 2 (some .boolean)) rmX8_has [.int x0, .int x1] MC TC MM TM res MC TC MM TM := by
  refine Met.ofW (cc := cX8_has) (maxL := 2) (ret := (some .boolean)) (by decide) rfl ?_
  intro p e s m args below meth c s₁ B hml hv
  obtain ⟨rfl, hP, hK⟩ := hv
  have hx := B.exec
  have hb := B.bytes
  have X : CX E p s m _ c cX8_has 2 RX8 := ⟨hx, hb, hml, findClass_of_methodNamed B.named, fun w h => atoms_spec (ws := _ :: wt) B.pre w (List.mem_cons_of_mem _ h), hK⟩
  have hr := B.returns
  have hlk := B.notSynchronized
  have hw : WW E b MC TC MM TM s s.heap [] := ⟨hP, va_S.rf⟩
  have hl := lv_entry ([.int x0, .int x1]) (n := 2) (Nat.le_of_ble_eq_true rfl)
  rw [lg_entry_eq]
  generalize (lg_sl ([.int x0, .int x1]) ++ List.replicate (2 - (lg_sl ([.int x0, .int x1])).length) Slot.unset).toArray = ls at hl ⊢
  have hl : lv_has ls 2 [(0, .int x0), (1, .int x1)] := hl
  obtain ⟨H, hH⟩ : ∃ H, H = s.heap := ⟨_, rfl⟩
  obtain ⟨locs, hL⟩ : ∃ L : List Loc, L = [] := ⟨_, rfl⟩
  rw [← hH, ← hL] at hw
  suffices hg : W p l e rmX8_has s m _ below meth c H locs 0 0 (MQ below (va_Qi (fun x (_ : Unit) => x = res) (fun _ t => PW E b MC TC MM TM t) (AA b)) _ s 0 0 (AA b)) (F0 m 0 ls []) by rw [hH, hL] at hg; exact hg
  clear hH hL
  rw [gX8_has] at hf
  refine lv_iload_n hx hb dX8_has_0 rfl (lv_at hl 0 rfl) ?_
  refine lv_iload_n hx hb dX8_has_1 rfl (lv_at hl 1 rfl) ?_
  refine lv_ishr hx hb dX8_has_2 ?_
  refine lv_iconst (v := 1) hx hb dX8_has_3 (by decide) ?_
  refine lv_iand hx hb dX8_has_4 ?_
  refine lv_iconst (v := 1) hx hb dX8_has_5 (by decide) ?_
  refine lv_icmp_ne (tgt := 13) hx hb dX8_has_6 (by decide) (fun c105 => ?_) (fun c105 => ?_)
  · replace hf := (if_neg c105).symm.trans hf
    refine lv_iconst (v := 0) hx hb dX8_has_13 (by decide) ?_
    exact tX8_has_14 X hr hlk 0 hf H locs ls hw (lv_sub hl [] rfl)
  · replace hf := (if_pos c105).symm.trans hf
    refine lv_iconst (v := 1) hx hb dX8_has_9 (by decide) ?_
    refine lv_goto (tgt := 14) hx hb dX8_has_10 (by decide) ?_
    exact tX8_has_14 X hr hlk 1 hf H locs ls hw (lv_sub hl [] rfl)

abbrev rmX8_bits : Room := { frames := 0, cells := 0, slots := 0, locals := 0 }
theorem hd_X8_bits : Hd yX8_bits RX8 1 := by decide +kernel
def gX8_bits_4   : Nat → Int32 → Int32 → Int32 → Option (Int32)
  | 0, _, _, _ => none
  | n + 1, x0, x1, x2 => if 10 ≤ x2 then (some (x1)) else ((some (x1 + ((x0 >>> (x2 &&& 31)) &&& 1))).bind fun z109 => (some (x2 + 1)).bind fun z110 => (gX8_bits_4 n) x0 z109 z110)
def gX8_bits (x0 : Int32) : Option (Int32) := gX8_bits_4 FU x0 0 0
set_option maxHeartbeats 4000000 in
set_option maxRecDepth 100000 in
theorem tX8_bits_4 {p : Program} {l : Launch} {e : Env} {s : State} {m : MethodId} {args : Array Value} {below : List Frame} {meth : Method} {c : Code} {E : EE} {b : Nat} {MC : Mem} {TC : Int64} {MM : Mem} {TM : Int64} {res : Int32} (X : CX E p s m args c cX8_bits 3 RX8) (hr : meth.sig.returnType = (some .int)) (hlk : meth.locks = false)    : ∀ (n : Nat) (x0 : Int32) (x1 : Int32) (x2 : Int32), gX8_bits_4 n x0 x1 x2 = some res → ∀ (H : Heap) (locs : List Loc) (ls : Array Slot), WW E b MC TC MM TM s H locs → lv_has ls 3 [(0, .int x0), (1, .int x1), (2, .int x2)] → W p l e rmX8_bits s m args below meth c H locs 0 0 (MQ below (va_Qi (fun x (_ : Unit) => x = res) (fun _ t => PW E b MC TC MM TM t) (AA b)) args s 0 0 (AA b)) (F0 m 4 ls []) := by
  have hx := X.1
  have hb := X.2.1
  intro n
  induction n with
  | zero =>
    intro x0 x1 x2 hf
    cases (show (none : Option (Int32)) = some res from hf)
  | succ n ih =>
    intro x0 x1 x2 hf H locs ls hw hl
    rw [gX8_bits_4] at hf
    refine lv_iload_n hx hb dX8_bits_4 rfl (lv_at hl 2 rfl) ?_
    refine lv_bipush (v := 10) hx hb dX8_bits_5 (by decide) ?_
    refine lv_icmp_ge (tgt := 24) hx hb dX8_bits_7 (by decide) (fun c108 => ?_) (fun c108 => ?_)
    · replace hf := (if_pos c108).symm.trans hf
      refine lv_iload_n hx hb dX8_bits_24 rfl (lv_at hl 1 rfl) ?_
      replace hf := Option.some.inj hf
      subst hf
      exact eI X hw hr hlk dX8_bits_25
    · replace hf := (if_neg c108).symm.trans hf
      refine lv_iload_n hx hb dX8_bits_10 rfl (lv_at hl 1 rfl) ?_
      refine lv_iload_n hx hb dX8_bits_11 rfl (lv_at hl 0 rfl) ?_
      refine lv_iload_n hx hb dX8_bits_12 rfl (lv_at hl 2 rfl) ?_
      refine lv_ishr hx hb dX8_bits_13 ?_
      refine lv_iconst (v := 1) hx hb dX8_bits_14 (by decide) ?_
      refine lv_iand hx hb dX8_bits_15 ?_
      refine lv_iadd hx hb dX8_bits_16 ?_
      refine lv_topi (fun z109 ez109 => ?_)
      replace hf := nmb hf ez109
      refine lv_istore_n (lv' := [(1, .int z109), (0, .int x0), (2, .int x2)]) hx hb dX8_bits_17 rfl hl (by decide) rfl (fun ls hl => ?_)
      obtain ⟨z110, ez110⟩ : ∃ y : Int32, y = x2 + 1 := ⟨_, rfl⟩
      replace hf := nmb hf ez110
      refine lv_iinc (v := z110) (lv' := [(2, .int z110), (1, .int z109), (0, .int x0)]) hx hb dX8_bits_18 hl (k := 2) rfl (by rw [ez110]; rfl) (by decide) rfl (fun ls hl => ?_)
      refine lv_goto (tgt := 4) hx hb dX8_bits_21 (by decide) ?_
      exact ih x0 z109 z110 hf H locs ls hw (lv_sub hl [2, 1, 0] rfl)
set_option maxHeartbeats 4000000 in
set_option maxRecDepth 100000 in
theorem ctX8_bits (l : Launch) (E : EE) (b : Nat) {MC : Mem} {TC : Int64} {MM : Mem} {TM : Int64} {x0 : Int32} {res : Int32}  (hf : gX8_bits x0 = some res) : MetI l E b yX8_bits (.code yX8_bits cX8_bits 3 (some .int)) rmX8_bits [.int x0] MC TC MM TM res MC TC MM TM := by
  refine Met.ofW (cc := cX8_bits) (maxL := 3) (ret := (some .int)) (by decide) rfl ?_
  intro p e s m args below meth c s₁ B hml hv
  obtain ⟨rfl, hP, hK⟩ := hv
  have hx := B.exec
  have hb := B.bytes
  have X : CX E p s m _ c cX8_bits 3 RX8 := ⟨hx, hb, hml, findClass_of_methodNamed B.named, fun w h => atoms_spec (ws := _ :: wt) B.pre w (List.mem_cons_of_mem _ h), hK⟩
  have hr := B.returns
  have hlk := B.notSynchronized
  have hw : WW E b MC TC MM TM s s.heap [] := ⟨hP, va_S.rf⟩
  have hl := lv_entry ([.int x0]) (n := 3) (Nat.le_of_ble_eq_true rfl)
  rw [lg_entry_eq]
  generalize (lg_sl ([.int x0]) ++ List.replicate (3 - (lg_sl ([.int x0])).length) Slot.unset).toArray = ls at hl ⊢
  have hl : lv_has ls 3 [(0, .int x0)] := hl
  obtain ⟨H, hH⟩ : ∃ H, H = s.heap := ⟨_, rfl⟩
  obtain ⟨locs, hL⟩ : ∃ L : List Loc, L = [] := ⟨_, rfl⟩
  rw [← hH, ← hL] at hw
  suffices hg : W p l e rmX8_bits s m _ below meth c H locs 0 0 (MQ below (va_Qi (fun x (_ : Unit) => x = res) (fun _ t => PW E b MC TC MM TM t) (AA b)) _ s 0 0 (AA b)) (F0 m 0 ls []) by rw [hH, hL] at hg; exact hg
  clear hH hL
  rw [gX8_bits] at hf
  refine lv_iconst (v := 0) hx hb dX8_bits_0 (by decide) ?_
  refine lv_istore_n (lv' := [(1, .int 0), (0, .int x0)]) hx hb dX8_bits_1 rfl hl (by decide) rfl (fun ls hl => ?_)
  refine lv_iconst (v := 0) hx hb dX8_bits_2 (by decide) ?_
  refine lv_istore_n (lv' := [(2, .int 0), (1, .int 0), (0, .int x0)]) hx hb dX8_bits_3 rfl hl (by decide) rfl (fun ls hl => ?_)
  exact tX8_bits_4 X hr hlk FU x0 0 0 hf H locs ls hw (lv_sub hl [2, 1, 0] rfl)

abbrev rmX8_isOne : Room := { frames := 1, cells := 0, slots := 0, locals := 22 }
theorem hd_X8_isOne : Hd yX8_isOne RX8 1 := by decide +kernel
def gX8_isOne (x1 : Int32) (M : Mem) : Option (Int32) := (gX8_in x1 0 ((M 197 0) - 1)).bind fun u111 => (zr u111).bind fun v113 => some (v113)
set_option maxHeartbeats 4000000 in
set_option maxRecDepth 100000 in
theorem ctX8_isOne (l : Launch) (E : EE) (b : Nat) {MC : Mem} {TC : Int64} {TM : Int64} {x1 : Int32} {M : Mem} {res : Int32}  (hf : gX8_isOne x1 M = some res) : MetI l E b yX8_isOne (.code yX8_isOne cX8_isOne 2 (some .boolean)) rmX8_isOne [.ref (b + 197), .int x1] MC TC M TM res MC TC M TM := by
  refine Met.ofW (cc := cX8_isOne) (maxL := 2) (ret := (some .boolean)) (by decide) rfl ?_
  intro p e s m args below meth c s₁ B hml hv
  obtain ⟨rfl, hP, hK⟩ := hv
  have hx := B.exec
  have hb := B.bytes
  have X : CX E p s m _ c cX8_isOne 2 RX8 := ⟨hx, hb, hml, findClass_of_methodNamed B.named, fun w h => atoms_spec (ws := _ :: wt) B.pre w (List.mem_cons_of_mem _ h), hK⟩
  have hr := B.returns
  have hlk := B.notSynchronized
  have hw : WW E b MC TC M TM s s.heap [] := ⟨hP, va_S.rf⟩
  have hl := lv_entry ([.ref (b + 197), .int x1]) (n := 2) (Nat.le_of_ble_eq_true rfl)
  rw [lg_entry_eq]
  generalize (lg_sl ([.ref (b + 197), .int x1]) ++ List.replicate (2 - (lg_sl ([.ref (b + 197), .int x1])).length) Slot.unset).toArray = ls at hl ⊢
  have hl : lv_has ls 2 [(0, .ref (b + 197)), (1, .int x1)] := hl
  obtain ⟨H, hH⟩ : ∃ H, H = s.heap := ⟨_, rfl⟩
  obtain ⟨locs, hL⟩ : ∃ L : List Loc, L = [] := ⟨_, rfl⟩
  rw [← hH, ← hL] at hw
  suffices hg : W p l e rmX8_isOne s m _ below meth c H locs 0 0 (MQ below (va_Qi (fun x (_ : Unit) => x = res) (fun _ t => PW E b MC TC M TM t) (AA b)) _ s 0 0 (AA b)) (F0 m 0 ls []) by rw [hH, hL] at hg; exact hg
  clear hH hL
  rw [gX8_isOne] at hf
  refine lv_iload_n hx hb dX8_isOne_0 rfl (lv_at hl 1 rfl) ?_
  refine lv_iconst (v := 0) hx hb dX8_isOne_1 (by decide) ?_
  refine lv_aload_n hx hb dX8_isOne_2 rfl (lv_at hl 0 rfl) ?_
  refine gt_X8 X hw 0 kk_197 rfl (by decide) mw_721 rfl dX8_isOne_3 ?_
  refine lv_iconst (v := 1) hx hb dX8_isOne_6 (by decide) ?_
  refine lv_isub hx hb dX8_isOne_7 ?_
  obtain ⟨u111, q112, hf⟩ := ob hf
  refine cSi (As := [.int x1, .int 0, .int ((M 197 0) - 1)]) X hw (ctX8_in l E b  q112) ⟨mw_819, mw_820, mw_61, mw_821⟩ hd_X8_in ⟨Nat.le_of_ble_eq_true rfl, Nat.le_of_ble_eq_true rfl, rfl, rfl⟩ rfl hl.1 rfl (Nat.le_of_ble_eq_true rfl) dX8_isOne_8 (fun H locs hw => ?_)
  obtain ⟨v113, q114, hf⟩ := ob hf
  obtain ⟨eq114, q114⟩ := zr_s q114
  rw [eq114]
  replace hf := Option.some.inj hf
  subst hf
  exact eZ X hw q114 hr hlk dX8_isOne_11

abbrev rmX8_isThought : Room := { frames := 1, cells := 0, slots := 0, locals := 22 }
theorem hd_X8_isThought : Hd yX8_isThought RX8 1 := by decide +kernel
def gX8_isThought (x0 : Int32) : Option (Int32) := (gX8_in x0 0 9).bind fun u115 => (zr u115).bind fun v117 => some (v117)
set_option maxHeartbeats 4000000 in
set_option maxRecDepth 100000 in
theorem ctX8_isThought (l : Launch) (E : EE) (b : Nat) {MC : Mem} {TC : Int64} {MM : Mem} {TM : Int64} {x0 : Int32} {res : Int32}  (hf : gX8_isThought x0 = some res) : MetI l E b yX8_isThought (.code yX8_isThought cX8_isThought 1 (some .boolean)) rmX8_isThought [.int x0] MC TC MM TM res MC TC MM TM := by
  refine Met.ofW (cc := cX8_isThought) (maxL := 1) (ret := (some .boolean)) (by decide) rfl ?_
  intro p e s m args below meth c s₁ B hml hv
  obtain ⟨rfl, hP, hK⟩ := hv
  have hx := B.exec
  have hb := B.bytes
  have X : CX E p s m _ c cX8_isThought 1 RX8 := ⟨hx, hb, hml, findClass_of_methodNamed B.named, fun w h => atoms_spec (ws := _ :: wt) B.pre w (List.mem_cons_of_mem _ h), hK⟩
  have hr := B.returns
  have hlk := B.notSynchronized
  have hw : WW E b MC TC MM TM s s.heap [] := ⟨hP, va_S.rf⟩
  have hl := lv_entry ([.int x0]) (n := 1) (Nat.le_of_ble_eq_true rfl)
  rw [lg_entry_eq]
  generalize (lg_sl ([.int x0]) ++ List.replicate (1 - (lg_sl ([.int x0])).length) Slot.unset).toArray = ls at hl ⊢
  have hl : lv_has ls 1 [(0, .int x0)] := hl
  obtain ⟨H, hH⟩ : ∃ H, H = s.heap := ⟨_, rfl⟩
  obtain ⟨locs, hL⟩ : ∃ L : List Loc, L = [] := ⟨_, rfl⟩
  rw [← hH, ← hL] at hw
  suffices hg : W p l e rmX8_isThought s m _ below meth c H locs 0 0 (MQ below (va_Qi (fun x (_ : Unit) => x = res) (fun _ t => PW E b MC TC MM TM t) (AA b)) _ s 0 0 (AA b)) (F0 m 0 ls []) by rw [hH, hL] at hg; exact hg
  clear hH hL
  rw [gX8_isThought] at hf
  refine lv_iload_n hx hb dX8_isThought_0 rfl (lv_at hl 0 rfl) ?_
  refine lv_iconst (v := 0) hx hb dX8_isThought_1 (by decide) ?_
  refine lv_bipush (v := 9) hx hb dX8_isThought_2 (by decide) ?_
  obtain ⟨u115, q116, hf⟩ := ob hf
  refine cSi (As := [.int x0, .int 0, .int 9]) X hw (ctX8_in l E b  q116) ⟨mw_819, mw_820, mw_61, mw_821⟩ hd_X8_in ⟨Nat.le_of_ble_eq_true rfl, Nat.le_of_ble_eq_true rfl, rfl, rfl⟩ rfl hl.1 rfl (Nat.le_of_ble_eq_true rfl) dX8_isThought_4 (fun H locs hw => ?_)
  obtain ⟨v117, q118, hf⟩ := ob hf
  obtain ⟨eq118, q118⟩ := zr_s q118
  rw [eq118]
  replace hf := Option.some.inj hf
  subst hf
  exact eZ X hw q118 hr hlk dX8_isThought_7

abbrev rmX8_isJar : Room := { frames := 1, cells := 0, slots := 0, locals := 22 }
theorem hd_X8_isJar : Hd yX8_isJar RX8 1 := by decide +kernel
def gX8_isJar (x0 : Int32) : Option (Int32) := (gX8_in x0 0 3).bind fun u119 => (zr u119).bind fun v121 => some (v121)
set_option maxHeartbeats 4000000 in
set_option maxRecDepth 100000 in
theorem ctX8_isJar (l : Launch) (E : EE) (b : Nat) {MC : Mem} {TC : Int64} {MM : Mem} {TM : Int64} {x0 : Int32} {res : Int32}  (hf : gX8_isJar x0 = some res) : MetI l E b yX8_isJar (.code yX8_isJar cX8_isJar 1 (some .boolean)) rmX8_isJar [.int x0] MC TC MM TM res MC TC MM TM := by
  refine Met.ofW (cc := cX8_isJar) (maxL := 1) (ret := (some .boolean)) (by decide) rfl ?_
  intro p e s m args below meth c s₁ B hml hv
  obtain ⟨rfl, hP, hK⟩ := hv
  have hx := B.exec
  have hb := B.bytes
  have X : CX E p s m _ c cX8_isJar 1 RX8 := ⟨hx, hb, hml, findClass_of_methodNamed B.named, fun w h => atoms_spec (ws := _ :: wt) B.pre w (List.mem_cons_of_mem _ h), hK⟩
  have hr := B.returns
  have hlk := B.notSynchronized
  have hw : WW E b MC TC MM TM s s.heap [] := ⟨hP, va_S.rf⟩
  have hl := lv_entry ([.int x0]) (n := 1) (Nat.le_of_ble_eq_true rfl)
  rw [lg_entry_eq]
  generalize (lg_sl ([.int x0]) ++ List.replicate (1 - (lg_sl ([.int x0])).length) Slot.unset).toArray = ls at hl ⊢
  have hl : lv_has ls 1 [(0, .int x0)] := hl
  obtain ⟨H, hH⟩ : ∃ H, H = s.heap := ⟨_, rfl⟩
  obtain ⟨locs, hL⟩ : ∃ L : List Loc, L = [] := ⟨_, rfl⟩
  rw [← hH, ← hL] at hw
  suffices hg : W p l e rmX8_isJar s m _ below meth c H locs 0 0 (MQ below (va_Qi (fun x (_ : Unit) => x = res) (fun _ t => PW E b MC TC MM TM t) (AA b)) _ s 0 0 (AA b)) (F0 m 0 ls []) by rw [hH, hL] at hg; exact hg
  clear hH hL
  rw [gX8_isJar] at hf
  refine lv_iload_n hx hb dX8_isJar_0 rfl (lv_at hl 0 rfl) ?_
  refine lv_iconst (v := 0) hx hb dX8_isJar_1 (by decide) ?_
  refine lv_iconst (v := 3) hx hb dX8_isJar_2 (by decide) ?_
  obtain ⟨u119, q120, hf⟩ := ob hf
  refine cSi (As := [.int x0, .int 0, .int 3]) X hw (ctX8_in l E b  q120) ⟨mw_819, mw_820, mw_61, mw_821⟩ hd_X8_in ⟨Nat.le_of_ble_eq_true rfl, Nat.le_of_ble_eq_true rfl, rfl, rfl⟩ rfl hl.1 rfl (Nat.le_of_ble_eq_true rfl) dX8_isJar_3 (fun H locs hw => ?_)
  obtain ⟨v121, q122, hf⟩ := ob hf
  obtain ⟨eq122, q122⟩ := zr_s q122
  rw [eq122]
  replace hf := Option.some.inj hf
  subst hf
  exact eZ X hw q122 hr hlk dX8_isJar_6

abbrev rmX8_type : Room := { frames := 1, cells := 0, slots := 0, locals := 22 }
theorem hd_X8_type : Hd yX8_type RX8 1 := by decide +kernel
def gX8_type (x1 : Int32) (M : Mem) : Option (Int32 × Mem) := (gX8_in x1 0 255).bind fun u123 => if u123 = 0 then (some ((-1), M)) else (if (M 197 14) = 120 then (some ((-3), M)) else ((stA 120 M 206 (M 197 14) x1).bind fun M127 => (some (us M127 197 14 ((M127 197 14) + 1))).bind fun M129 => some (M129 197 14, M129)))
set_option maxHeartbeats 4000000 in
set_option maxRecDepth 100000 in
theorem ctX8_type (l : Launch) (E : EE) (b : Nat) {MC : Mem} {TC : Int64} {TM : Int64} {x1 : Int32} {M : Mem} {res : Int32 × Mem}  (hf : gX8_type x1 M = some res) : MetI l E b yX8_type (.code yX8_type cX8_type 2 (some .int)) rmX8_type [.ref (b + 197), .int x1] MC TC M TM res.1 MC TC res.2 TM := by
  refine Met.ofW (cc := cX8_type) (maxL := 2) (ret := (some .int)) (by decide) rfl ?_
  intro p e s m args below meth c s₁ B hml hv
  obtain ⟨rfl, hP, hK⟩ := hv
  have hx := B.exec
  have hb := B.bytes
  have X : CX E p s m _ c cX8_type 2 RX8 := ⟨hx, hb, hml, findClass_of_methodNamed B.named, fun w h => atoms_spec (ws := _ :: wt) B.pre w (List.mem_cons_of_mem _ h), hK⟩
  have hr := B.returns
  have hlk := B.notSynchronized
  have hw : WW E b MC TC M TM s s.heap [] := ⟨hP, va_S.rf⟩
  have hl := lv_entry ([.ref (b + 197), .int x1]) (n := 2) (Nat.le_of_ble_eq_true rfl)
  rw [lg_entry_eq]
  generalize (lg_sl ([.ref (b + 197), .int x1]) ++ List.replicate (2 - (lg_sl ([.ref (b + 197), .int x1])).length) Slot.unset).toArray = ls at hl ⊢
  have hl : lv_has ls 2 [(0, .ref (b + 197)), (1, .int x1)] := hl
  obtain ⟨H, hH⟩ : ∃ H, H = s.heap := ⟨_, rfl⟩
  obtain ⟨locs, hL⟩ : ∃ L : List Loc, L = [] := ⟨_, rfl⟩
  rw [← hH, ← hL] at hw
  suffices hg : W p l e rmX8_type s m _ below meth c H locs 0 0 (MQ below (va_Qi (fun x (_ : Unit) => x = res.1) (fun _ t => PW E b MC TC res.2 TM t) (AA b)) _ s 0 0 (AA b)) (F0 m 0 ls []) by rw [hH, hL] at hg; exact hg
  clear hH hL
  rw [gX8_type] at hf
  refine lv_iload_n hx hb dX8_type_0 rfl (lv_at hl 1 rfl) ?_
  refine lv_iconst (v := 0) hx hb dX8_type_1 (by decide) ?_
  refine lv_sipush (v := 255) hx hb dX8_type_2 (by decide) ?_
  obtain ⟨u123, q124, hf⟩ := ob hf
  refine cSi (As := [.int x1, .int 0, .int 255]) X hw (ctX8_in l E b  q124) ⟨mw_819, mw_820, mw_61, mw_821⟩ hd_X8_in ⟨Nat.le_of_ble_eq_true rfl, Nat.le_of_ble_eq_true rfl, rfl, rfl⟩ rfl hl.1 rfl (Nat.le_of_ble_eq_true rfl) dX8_type_5 (fun H locs hw => ?_)
  refine lv_if_ne (tgt := 13) hx hb dX8_type_8 (by decide) (fun c125 => ?_) (fun c125 => ?_)
  · replace hf := (if_neg c125).symm.trans hf
    refine lv_aload_n hx hb dX8_type_13 rfl (lv_at hl 0 rfl) ?_
    refine gt_X8 X hw 14 kk_197 rfl (by decide) mw_735 rfl dX8_type_14 ?_
    refine lv_bipush (v := 120) hx hb dX8_type_17 (by decide) ?_
    refine lv_icmp_ne (tgt := 25) hx hb dX8_type_19 (by decide) (fun c126 => ?_) (fun c126 => ?_)
    · replace hf := (if_neg c126).symm.trans hf
      refine lv_aload_n hx hb dX8_type_25 rfl (lv_at hl 0 rfl) ?_
      refine gt_X8 X hw 13 kk_197 rfl (by decide) mw_734 rfl dX8_type_26 ?_
      refine lv_aload_n hx hb dX8_type_29 rfl (lv_at hl 0 rfl) ?_
      refine gt_X8 X hw 14 kk_197 rfl (by decide) mw_735 rfl dX8_type_30 ?_
      refine lv_iload_n hx hb dX8_type_33 rfl (lv_at hl 1 rfl) ?_
      obtain ⟨M127, q128, hf⟩ := ob hf
      refine astM X hw kdv_206 q128 dX8_type_34 (fun H locs hw => ?_)
      refine lv_aload_n hx hb dX8_type_35 rfl (lv_at hl 0 rfl) ?_
      refine lv_dup hx hb dX8_type_36 rfl ?_
      refine gt_X8 X hw 14 kk_197 rfl (by decide) mw_735 rfl dX8_type_37 ?_
      refine lv_iconst (v := 1) hx hb dX8_type_40 (by decide) ?_
      refine lv_iadd hx hb dX8_type_41 ?_
      obtain ⟨M129, eM129, hf⟩ := ob hf
      refine pt_X8_14 X hw kk_197 mw_735 dX8_type_42 (fun H locs hw => ?_)
      rw [Option.some.inj eM129] at hw
      refine lv_aload_n hx hb dX8_type_45 rfl (lv_at hl 0 rfl) ?_
      refine gt_X8 X hw 14 kk_197 rfl (by decide) mw_735 rfl dX8_type_46 ?_
      replace hf := Option.some.inj hf
      subst hf
      exact eI X hw hr hlk dX8_type_49
    · replace hf := (if_pos c126).symm.trans hf
      refine lv_bipush (v := (-3)) hx hb dX8_type_22 (by decide) ?_
      replace hf := Option.some.inj hf
      subst hf
      exact eI X hw hr hlk dX8_type_24
  · replace hf := (if_pos c125).symm.trans hf
    refine lv_iconst (v := (-1)) hx hb dX8_type_11 (by decide) ?_
    replace hf := Option.some.inj hf
    subst hf
    exact eI X hw hr hlk dX8_type_12

abbrev rmX8_clear : Room := { frames := 0, cells := 0, slots := 0, locals := 0 }
theorem hd_X8_clear : Hd yX8_clear RX8 0 := by decide +kernel
def gX8_clear (M : Mem) : Option (Int32 × Mem) := (some (M 197 14)).bind fun z130 => (some (us M 197 14 0)).bind fun M131 => some (z130, M131)
set_option maxHeartbeats 4000000 in
set_option maxRecDepth 100000 in
theorem ctX8_clear (l : Launch) (E : EE) (b : Nat) {MC : Mem} {TC : Int64} {TM : Int64} {M : Mem} {res : Int32 × Mem}  (hf : gX8_clear M = some res) : MetI l E b yX8_clear (.code yX8_clear cX8_clear 2 (some .int)) rmX8_clear [.ref (b + 197)] MC TC M TM res.1 MC TC res.2 TM := by
  refine Met.ofW (cc := cX8_clear) (maxL := 2) (ret := (some .int)) (by decide) rfl ?_
  intro p e s m args below meth c s₁ B hml hv
  obtain ⟨rfl, hP, hK⟩ := hv
  have hx := B.exec
  have hb := B.bytes
  have X : CX E p s m _ c cX8_clear 2 RX8 := ⟨hx, hb, hml, findClass_of_methodNamed B.named, fun w h => atoms_spec (ws := _ :: wt) B.pre w (List.mem_cons_of_mem _ h), hK⟩
  have hr := B.returns
  have hlk := B.notSynchronized
  have hw : WW E b MC TC M TM s s.heap [] := ⟨hP, va_S.rf⟩
  have hl := lv_entry ([.ref (b + 197)]) (n := 2) (Nat.le_of_ble_eq_true rfl)
  rw [lg_entry_eq]
  generalize (lg_sl ([.ref (b + 197)]) ++ List.replicate (2 - (lg_sl ([.ref (b + 197)])).length) Slot.unset).toArray = ls at hl ⊢
  have hl : lv_has ls 2 [(0, .ref (b + 197))] := hl
  obtain ⟨H, hH⟩ : ∃ H, H = s.heap := ⟨_, rfl⟩
  obtain ⟨locs, hL⟩ : ∃ L : List Loc, L = [] := ⟨_, rfl⟩
  rw [← hH, ← hL] at hw
  suffices hg : W p l e rmX8_clear s m _ below meth c H locs 0 0 (MQ below (va_Qi (fun x (_ : Unit) => x = res.1) (fun _ t => PW E b MC TC res.2 TM t) (AA b)) _ s 0 0 (AA b)) (F0 m 0 ls []) by rw [hH, hL] at hg; exact hg
  clear hH hL
  rw [gX8_clear] at hf
  refine lv_aload_n hx hb dX8_clear_0 rfl (lv_at hl 0 rfl) ?_
  refine gt_X8 X hw 14 kk_197 rfl (by decide) mw_735 rfl dX8_clear_1 ?_
  refine lv_topi (fun z130 ez130 => ?_)
  replace hf := nmb hf ez130
  refine lv_istore_n (lv' := [(1, .int z130), (0, .ref (b + 197))]) hx hb dX8_clear_4 rfl hl (by decide) rfl (fun ls hl => ?_)
  refine lv_aload_n hx hb dX8_clear_5 rfl (lv_at hl 1 rfl) ?_
  refine lv_iconst (v := 0) hx hb dX8_clear_6 (by decide) ?_
  obtain ⟨M131, eM131, hf⟩ := ob hf
  refine pt_X8_14 X hw kk_197 mw_735 dX8_clear_7 (fun H locs hw => ?_)
  rw [Option.some.inj eM131] at hw
  refine lv_iload_n hx hb dX8_clear_10 rfl (lv_at hl 0 rfl) ?_
  replace hf := Option.some.inj hf
  subst hf
  exact eI X hw hr hlk dX8_clear_11
