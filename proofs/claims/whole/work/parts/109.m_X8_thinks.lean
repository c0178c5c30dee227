abbrev rmX8_thinks : Room := { frames := 0, cells := 0, slots := 0, locals := 0 }
theorem hd_X8_thinks : Hd yX8_thinks RX8 2 := by decide +kernel
def gX8_thinks_55   (y0 : Int32) (M : Mem) : Option (Int32) := some (y0)
def gX8_thinks_30   (x1 : Int32) (x2 : Int32) (M : Mem) : Option (Int32) := (ldA 1233 (M 201) 0).bind fun v2 => (ldA 5 (M 199) x1).bind fun v4 => (nz v4).bind fun _ => (ldA 35 (M 200) ((7 * x1) + ((v2 + x2) - (v2 + x2) / v4 * v4))).bind fun v7 => gX8_thinks_55 v7 M
def gX8_thinks (x1 : Int32) (x2 : Int32) (M : Mem) : Option (Int32) := if x2 = 0 then ((ldA 1233 (M 201) (67 + x1)).bind fun v9 => if v9 = ((-9)) then (gX8_thinks_30 x1 x2 M) else ((ldA 1233 (M 201) (67 + x1)).bind fun v12 => gX8_thinks_55 v12 M)) else (gX8_thinks_30 x1 x2 M)
set_option maxHeartbeats 4000000 in
set_option maxRecDepth 100000 in
theorem tX8_thinks_55 {p : Program} {l : Launch} {e : Env} {s : State} {m : MethodId} {args : Array Value} {below : List Frame} {meth : Method} {c : Code} {E : EE} {b : Nat} {MC : Mem} {TC : Int64} {TM : Int64} {res : Int32} (X : CX E p s m args c cX8_thinks 3 RX8) (hr : meth.sig.returnType = (some .int)) (hlk : meth.locks = false)    : ∀ (y0 : Int32) (M : Mem), gX8_thinks_55 y0 M = some res → ∀ (H : Heap) (locs : List Loc) (ls : Array Slot), WW E b MC TC M TM s H locs → lv_has ls 3 [] → W p l e rmX8_thinks s m args below meth c H locs 0 0 (MQ below (va_Qi (fun x (_ : Unit) => x = res) (fun _ t => PW E b MC TC M TM t) (AA b)) args s 0 0 (AA b)) (F0 m 55 ls [.int y0]) := by
  have hx := X.1
  have hb := X.2.1
  intro y0 M hf H locs ls hw hl
  rw [gX8_thinks_55] at hf
  replace hf := Option.some.inj hf
  subst hf
  exact eI X hw hr hlk dX8_thinks_55
set_option maxHeartbeats 4000000 in
set_option maxRecDepth 100000 in
theorem tX8_thinks_30 {p : Program} {l : Launch} {e : Env} {s : State} {m : MethodId} {args : Array Value} {below : List Frame} {meth : Method} {c : Code} {E : EE} {b : Nat} {MC : Mem} {TC : Int64} {TM : Int64} {res : Int32} (X : CX E p s m args c cX8_thinks 3 RX8) (hr : meth.sig.returnType = (some .int)) (hlk : meth.locks = false)    : ∀ (x1 : Int32) (x2 : Int32) (M : Mem), gX8_thinks_30 x1 x2 M = some res → ∀ (H : Heap) (locs : List Loc) (ls : Array Slot), WW E b MC TC M TM s H locs → lv_has ls 3 [(0, .ref (b + 197)), (1, .int x1), (2, .int x2)] → W p l e rmX8_thinks s m args below meth c H locs 0 0 (MQ below (va_Qi (fun x (_ : Unit) => x = res) (fun _ t => PW E b MC TC M TM t) (AA b)) args s 0 0 (AA b)) (F0 m 30 ls []) := by
  have hx := X.1
  have hb := X.2.1
  intro x1 x2 M hf H locs ls hw hl
  rw [gX8_thinks_30] at hf
  refine lv_aload_n hx hb dX8_thinks_30 rfl (lv_at hl 0 rfl) ?_
  refine gt_X8 X hw 3 kk_197 rfl (by decide) mw_724 rfl dX8_thinks_31 ?_
  refine lv_bipush (v := 7) hx hb dX8_thinks_34 (by decide) ?_
  refine lv_iload_n hx hb dX8_thinks_36 rfl (lv_at hl 1 rfl) ?_
  refine lv_imul hx hb dX8_thinks_37 ?_
  refine lv_aload_n hx hb dX8_thinks_38 rfl (lv_at hl 0 rfl) ?_
  refine gt_X8 X hw 5 kk_197 rfl (by decide) mw_726 rfl dX8_thinks_39 ?_
  refine lv_iconst (v := 0) hx hb dX8_thinks_42 (by decide) ?_
  obtain ⟨v2, q3, hf⟩ := ob hf
  refine aldM X hw kdv_201 q3 dX8_thinks_43 ?_
  refine lv_iload_n hx hb dX8_thinks_44 rfl (lv_at hl 2 rfl) ?_
  refine lv_iadd hx hb dX8_thinks_45 ?_
  refine lv_aload_n hx hb dX8_thinks_46 rfl (lv_at hl 0 rfl) ?_
  refine gt_X8 X hw 2 kk_197 rfl (by decide) mw_723 rfl dX8_thinks_47 ?_
  refine lv_iload_n hx hb dX8_thinks_50 rfl (lv_at hl 1 rfl) ?_
  obtain ⟨v4, q5, hf⟩ := ob hf
  refine aldM X hw kdv_199 q5 dX8_thinks_51 ?_
  obtain ⟨_, q6, hf⟩ := ob hf
  refine lv_irem hx hb dX8_thinks_52 (nz_ne q6) ?_
  refine lv_iadd hx hb dX8_thinks_53 ?_
  obtain ⟨v7, q8, hf⟩ := ob hf
  refine aldM X hw kdv_200 q8 dX8_thinks_54 ?_
  exact tX8_thinks_55 X hr hlk v7 M hf H locs ls hw (lv_sub hl [] rfl)
set_option maxHeartbeats 4000000 in
set_option maxRecDepth 100000 in
theorem ctX8_thinks (l : Launch) (E : EE) (b : Nat) {MC : Mem} {TC : Int64} {TM : Int64} {x1 : Int32} {x2 : Int32} {M : Mem} {res : Int32}  (hf : gX8_thinks x1 x2 M = some res) : MetI l E b yX8_thinks (.code yX8_thinks cX8_thinks 3 (some .int)) rmX8_thinks [.ref (b + 197), .int x1, .int x2] MC TC M TM res MC TC M TM := by
  refine Met.ofW (cc := cX8_thinks) (maxL := 3) (ret := (some .int)) (by decide) rfl ?_
  intro p e s m args below meth c s₁ B hml hv
  obtain ⟨rfl, hP, hK⟩ := hv
  have hx := B.exec
  have hb := B.bytes
  have X : CX E p s m _ c cX8_thinks 3 RX8 := ⟨hx, hb, hml, findClass_of_methodNamed B.named, fun w h => atoms_spec (ws := _ :: wt) B.pre w (List.mem_cons_of_mem _ h), hK⟩
  have hr := B.returns
  have hlk := B.notSynchronized
  have hw : WW E b MC TC M TM s s.heap [] := ⟨hP, va_S.rf⟩
  have hl := lv_entry ([.ref (b + 197), .int x1, .int x2]) (n := 3) (Nat.le_of_ble_eq_true rfl)
  rw [lg_entry_eq]
  generalize (lg_sl ([.ref (b + 197), .int x1, .int x2]) ++ List.replicate (3 - (lg_sl ([.ref (b + 197), .int x1, .int x2])).length) Slot.unset).toArray = ls at hl ⊢
  have hl : lv_has ls 3 [(0, .ref (b + 197)), (1, .int x1), (2, .int x2)] := hl
  obtain ⟨H, hH⟩ : ∃ H, H = s.heap := ⟨_, rfl⟩
  obtain ⟨locs, hL⟩ : ∃ L : List Loc, L = [] := ⟨_, rfl⟩
  rw [← hH, ← hL] at hw
  suffices hg : W p l e rmX8_thinks s m _ below meth c H locs 0 0 (MQ below (va_Qi (fun x (_ : Unit) => x = res) (fun _ t => PW E b MC TC M TM t) (AA b)) _ s 0 0 (AA b)) (F0 m 0 ls []) by rw [hH, hL] at hg; exact hg
  clear hH hL
  rw [gX8_thinks] at hf
  refine lv_iload_n hx hb dX8_thinks_0 rfl (lv_at hl 2 rfl) ?_
  refine lv_if_ne (tgt := 30) hx hb dX8_thinks_1 (by decide) (fun c1 => ?_) (fun c1 => ?_)
  · replace hf := (if_neg c1).symm.trans hf
    exact tX8_thinks_30 X hr hlk x1 x2 M hf H locs ls hw (lv_sub hl [0, 1, 2] rfl)
  · replace hf := (if_pos c1).symm.trans hf
    refine lv_aload_n hx hb dX8_thinks_4 rfl (lv_at hl 0 rfl) ?_
    refine gt_X8 X hw 5 kk_197 rfl (by decide) mw_726 rfl dX8_thinks_5 ?_
    refine lv_bipush (v := 67) hx hb dX8_thinks_8 (by decide) ?_
    refine lv_iload_n hx hb dX8_thinks_10 rfl (lv_at hl 1 rfl) ?_
    refine lv_iadd hx hb dX8_thinks_11 ?_
    obtain ⟨v9, q10, hf⟩ := ob hf
    refine aldM X hw kdv_201 q10 dX8_thinks_12 ?_
    refine lv_bipush (v := (-9)) hx hb dX8_thinks_13 (by decide) ?_
    refine lv_icmp_eq (tgt := 30) hx hb dX8_thinks_15 (by decide) (fun c11 => ?_) (fun c11 => ?_)
    · replace hf := (if_pos c11).symm.trans hf
      exact tX8_thinks_30 X hr hlk x1 x2 M hf H locs ls hw (lv_sub hl [0, 1, 2] rfl)
    · replace hf := (if_neg c11).symm.trans hf
      refine lv_aload_n hx hb dX8_thinks_18 rfl (lv_at hl 0 rfl) ?_
      refine gt_X8 X hw 5 kk_197 rfl (by decide) mw_726 rfl dX8_thinks_19 ?_
      refine lv_bipush (v := 67) hx hb dX8_thinks_22 (by decide) ?_
      refine lv_iload_n hx hb dX8_thinks_24 rfl (lv_at hl 1 rfl) ?_
      refine lv_iadd hx hb dX8_thinks_25 ?_
      obtain ⟨v12, q13, hf⟩ := ob hf
      refine aldM X hw kdv_201 q13 dX8_thinks_26 ?_
      refine lv_goto (tgt := 55) hx hb dX8_thinks_27 (by decide) ?_
      exact tX8_thinks_55 X hr hlk v12 M hf H locs ls hw (lv_sub hl [] rfl)

abbrev rmX8_loses : Room := { frames := 0, cells := 0, slots := 0, locals := 0 }
theorem hd_X8_loses : Hd yX8_loses RX8 2 := by decide +kernel
def gX8_loses_14   : Nat → Int32 → Int32 → Int32 → Mem → Option (Mem)
  | 0, _, _, _, _ => none
  | n + 1, x1, x2, x3, M => (ldA 1233 (M 201) (2 + x1)).bind fun v18 => if v18 ≤ x3 then (some (M)) else ((ldA 1233 (M 201) (((7 + (12 * x1)) + x3) + x2)).bind fun v21 => (stA 1233 M 201 ((7 + (12 * x1)) + x3) v21).bind fun M23 => (some (x3 + 1)).bind fun z25 => (gX8_loses_14 n) x1 x2 z25 M23)
def gX8_loses (x1 : Int32) (x2 : Int32) (M : Mem) : Option (Mem) := (ldA 1233 (M 201) (2 + x1)).bind fun v14 => (stA 1233 M 201 (2 + x1) (v14 - x2)).bind fun M16 => gX8_loses_14 FU x1 x2 0 M16
set_option maxHeartbeats 4000000 in
set_option maxRecDepth 100000 in
theorem tX8_loses_14 {p : Program} {l : Launch} {e : Env} {s : State} {m : MethodId} {args : Array Value} {below : List Frame} {meth : Method} {c : Code} {E : EE} {b : Nat} {MC : Mem} {TC : Int64} {TM : Int64} {res : Mem} (X : CX E p s m args c cX8_loses 4 RX8) (hr : meth.sig.returnType = none) (hlk : meth.locks = false)    : ∀ (n : Nat) (x1 : Int32) (x2 : Int32) (x3 : Int32) (M : Mem), gX8_loses_14 n x1 x2 x3 M = some res → ∀ (H : Heap) (locs : List Loc) (ls : Array Slot), WW E b MC TC M TM s H locs → lv_has ls 4 [(0, .ref (b + 197)), (1, .int x1), (2, .int x2), (3, .int x3)] → W p l e rmX8_loses s m args below meth c H locs 0 0 (MQ below (va_Qv (fun (_ : Unit) => True) (fun _ t => PW E b MC TC res TM t) (AA b)) args s 0 0 (AA b)) (F0 m 14 ls []) := by
  have hx := X.1
  have hb := X.2.1
  intro n
  induction n with
  | zero =>
    intro x1 x2 x3 M hf
    cases (show (none : Option (Mem)) = some res from hf)
  | succ n ih =>
    intro x1 x2 x3 M hf H locs ls hw hl
    rw [gX8_loses_14] at hf
    refine lv_iload_n hx hb dX8_loses_14 rfl (lv_at hl 3 rfl) ?_
    refine lv_aload_n hx hb dX8_loses_15 rfl (lv_at hl 0 rfl) ?_
    refine gt_X8 X hw 5 kk_197 rfl (by decide) mw_726 rfl dX8_loses_16 ?_
    refine lv_iconst (v := 2) hx hb dX8_loses_19 (by decide) ?_
    refine lv_iload_n hx hb dX8_loses_20 rfl (lv_at hl 1 rfl) ?_
    refine lv_iadd hx hb dX8_loses_21 ?_
    obtain ⟨v18, q19, hf⟩ := ob hf
    refine aldM X hw kdv_201 q19 dX8_loses_22 ?_
    refine lv_icmp_ge (tgt := 62) hx hb dX8_loses_23 (by decide) (fun c20 => ?_) (fun c20 => ?_)
    · replace hf := (if_pos c20).symm.trans hf
      replace hf := Option.some.inj hf
      subst hf
      exact eV X hw hr hlk dX8_loses_62
    · replace hf := (if_neg c20).symm.trans hf
      refine lv_aload_n hx hb dX8_loses_26 rfl (lv_at hl 0 rfl) ?_
      refine gt_X8 X hw 5 kk_197 rfl (by decide) mw_726 rfl dX8_loses_27 ?_
      refine lv_bipush (v := 7) hx hb dX8_loses_30 (by decide) ?_
      refine lv_bipush (v := 12) hx hb dX8_loses_32 (by decide) ?_
      refine lv_iload_n hx hb dX8_loses_34 rfl (lv_at hl 1 rfl) ?_
      refine lv_imul hx hb dX8_loses_35 ?_
      refine lv_iadd hx hb dX8_loses_36 ?_
      refine lv_iload_n hx hb dX8_loses_37 rfl (lv_at hl 3 rfl) ?_
      refine lv_iadd hx hb dX8_loses_38 ?_
      refine lv_aload_n hx hb dX8_loses_39 rfl (lv_at hl 0 rfl) ?_
      refine gt_X8 X hw 5 kk_197 rfl (by decide) mw_726 rfl dX8_loses_40 ?_
      refine lv_bipush (v := 7) hx hb dX8_loses_43 (by decide) ?_
      refine lv_bipush (v := 12) hx hb dX8_loses_45 (by decide) ?_
      refine lv_iload_n hx hb dX8_loses_47 rfl (lv_at hl 1 rfl) ?_
      refine lv_imul hx hb dX8_loses_48 ?_
      refine lv_iadd hx hb dX8_loses_49 ?_
      refine lv_iload_n hx hb dX8_loses_50 rfl (lv_at hl 3 rfl) ?_
      refine lv_iadd hx hb dX8_loses_51 ?_
      refine lv_iload_n hx hb dX8_loses_52 rfl (lv_at hl 2 rfl) ?_
      refine lv_iadd hx hb dX8_loses_53 ?_
      obtain ⟨v21, q22, hf⟩ := ob hf
      refine aldM X hw kdv_201 q22 dX8_loses_54 ?_
      obtain ⟨M23, q24, hf⟩ := ob hf
      refine astM X hw kdv_201 q24 dX8_loses_55 (fun H locs hw => ?_)
      obtain ⟨z25, ez25⟩ : ∃ y : Int32, y = x3 + 1 := ⟨_, rfl⟩
      replace hf := nmb hf ez25
      refine lv_iinc (v := z25) (lv' := [(3, .int z25), (0, .ref (b + 197)), (1, .int x1), (2, .int x2)]) hx hb dX8_loses_56 hl (k := 3) rfl (by rw [ez25]; rfl) (by decide) rfl (fun ls hl => ?_)
      refine lv_goto (tgt := 14) hx hb dX8_loses_59 (by decide) ?_
      exact ih x1 x2 z25 M23 hf H locs ls hw (lv_sub hl [1, 2, 3, 0] rfl)
set_option maxHeartbeats 4000000 in
set_option maxRecDepth 100000 in
theorem ctX8_loses (l : Launch) (E : EE) (b : Nat) {MC : Mem} {TC : Int64} {TM : Int64} {x1 : Int32} {x2 : Int32} {M : Mem} {res : Mem}  (hf : gX8_loses x1 x2 M = some res) : MetV l E b yX8_loses (.code yX8_loses cX8_loses 4 none) rmX8_loses [.ref (b + 197), .int x1, .int x2] MC TC M TM MC TC res TM := by
  refine Met.ofW (cc := cX8_loses) (maxL := 4) (ret := none) (by decide) rfl ?_
  intro p e s m args below meth c s₁ B hml hv
  obtain ⟨rfl, hP, hK⟩ := hv
  have hx := B.exec
  have hb := B.bytes
  have X : CX E p s m _ c cX8_loses 4 RX8 := ⟨hx, hb, hml, findClass_of_methodNamed B.named, fun w h => atoms_spec (ws := _ :: wt) B.pre w (List.mem_cons_of_mem _ h), hK⟩
  have hr := B.returns
  have hlk := B.notSynchronized
  have hw : WW E b MC TC M TM s s.heap [] := ⟨hP, va_S.rf⟩
  have hl := lv_entry ([.ref (b + 197), .int x1, .int x2]) (n := 4) (Nat.le_of_ble_eq_true rfl)
  rw [lg_entry_eq]
  generalize (lg_sl ([.ref (b + 197), .int x1, .int x2]) ++ List.replicate (4 - (lg_sl ([.ref (b + 197), .int x1, .int x2])).length) Slot.unset).toArray = ls at hl ⊢
  have hl : lv_has ls 4 [(0, .ref (b + 197)), (1, .int x1), (2, .int x2)] := hl
  obtain ⟨H, hH⟩ : ∃ H, H = s.heap := ⟨_, rfl⟩
  obtain ⟨locs, hL⟩ : ∃ L : List Loc, L = [] := ⟨_, rfl⟩
  rw [← hH, ← hL] at hw
  suffices hg : W p l e rmX8_loses s m _ below meth c H locs 0 0 (MQ below (va_Qv (fun (_ : Unit) => True) (fun _ t => PW E b MC TC res TM t) (AA b)) _ s 0 0 (AA b)) (F0 m 0 ls []) by rw [hH, hL] at hg; exact hg
  clear hH hL
  rw [gX8_loses] at hf
  refine lv_aload_n hx hb dX8_loses_0 rfl (lv_at hl 0 rfl) ?_
  refine gt_X8 X hw 5 kk_197 rfl (by decide) mw_726 rfl dX8_loses_1 ?_
  refine lv_iconst (v := 2) hx hb dX8_loses_4 (by decide) ?_
  refine lv_iload_n hx hb dX8_loses_5 rfl (lv_at hl 1 rfl) ?_
  refine lv_iadd hx hb dX8_loses_6 ?_
  refine lv_dup2_11 hx hb dX8_loses_7 rfl rfl ?_
  obtain ⟨v14, q15, hf⟩ := ob hf
  refine aldM X hw kdv_201 q15 dX8_loses_8 ?_
  refine lv_iload_n hx hb dX8_loses_9 rfl (lv_at hl 2 rfl) ?_
  refine lv_isub hx hb dX8_loses_10 ?_
  obtain ⟨M16, q17, hf⟩ := ob hf
  refine astM X hw kdv_201 q17 dX8_loses_11 (fun H locs hw => ?_)
  refine lv_iconst (v := 0) hx hb dX8_loses_12 (by decide) ?_
  refine lv_istore_n (lv' := [(3, .int 0), (0, .ref (b + 197)), (1, .int x1), (2, .int x2)]) hx hb dX8_loses_13 rfl hl (by decide) rfl (fun ls hl => ?_)
  exact tX8_loses_14 X hr hlk FU x1 x2 0 M16 hf H locs ls hw (lv_sub hl [1, 2, 3, 0] rfl)

abbrev rmX8_grows : Room := { frames := 1, cells := 0, slots := 0, locals := 23 }
theorem hd_X8_grows : Hd yX8_grows RX8 1 := by decide +kernel
def gX8_grows_39   (x1 : Int32) (x2 : Int32) (M : Mem) : Option (Mem) := (ldA 1233 (M 201) (2 + x1)).bind fun v33 => (stA 1233 M 201 ((7 + (12 * x1)) + v33) x2).bind fun M35 => (ldA 1233 (M35 201) (2 + x1)).bind fun v37 => (stA 1233 M35 201 (2 + x1) (v37 + 1)).bind fun M39 => some (M39)
def gX8_grows (x1 : Int32) (M : Mem) : Option (Mem) := (gX8_thinks x1 0 M).bind fun u26 => (stA 1233 M 201 (67 + x1) ((-9))).bind fun M28 => (ldA 1233 (M28 201) (2 + x1)).bind fun v30 => if v30 = (M28 197 4) then ((gX8_loses x1 1 M28).bind fun u41 => gX8_grows_39 x1 u26 u41) else (gX8_grows_39 x1 u26 M28)
set_option maxHeartbeats 4000000 in
set_option maxRecDepth 100000 in
theorem tX8_grows_39 {p : Program} {l : Launch} {e : Env} {s : State} {m : MethodId} {args : Array Value} {below : List Frame} {meth : Method} {c : Code} {E : EE} {b : Nat} {MC : Mem} {TC : Int64} {TM : Int64} {res : Mem} (X : CX E p s m args c cX8_grows 3 RX8) (hr : meth.sig.returnType = none) (hlk : meth.locks = false)    : ∀ (x1 : Int32) (x2 : Int32) (M : Mem), gX8_grows_39 x1 x2 M = some res → ∀ (H : Heap) (locs : List Loc) (ls : Array Slot), WW E b MC TC M TM s H locs → lv_has ls 3 [(0, .ref (b + 197)), (1, .int x1), (2, .int x2)] → W p l e rmX8_grows s m args below meth c H locs 0 0 (MQ below (va_Qv (fun (_ : Unit) => True) (fun _ t => PW E b MC TC res TM t) (AA b)) args s 0 0 (AA b)) (F0 m 39 ls []) := by
  have hx := X.1
  have hb := X.2.1
  intro x1 x2 M hf H locs ls hw hl
  rw [gX8_grows_39] at hf
  refine lv_aload_n hx hb dX8_grows_39 rfl (lv_at hl 0 rfl) ?_
  refine gt_X8 X hw 5 kk_197 rfl (by decide) mw_726 rfl dX8_grows_40 ?_
  refine lv_bipush (v := 7) hx hb dX8_grows_43 (by decide) ?_
  refine lv_bipush (v := 12) hx hb dX8_grows_45 (by decide) ?_
  refine lv_iload_n hx hb dX8_grows_47 rfl (lv_at hl 1 rfl) ?_
  refine lv_imul hx hb dX8_grows_48 ?_
  refine lv_iadd hx hb dX8_grows_49 ?_
  refine lv_aload_n hx hb dX8_grows_50 rfl (lv_at hl 0 rfl) ?_
  refine gt_X8 X hw 5 kk_197 rfl (by decide) mw_726 rfl dX8_grows_51 ?_
  refine lv_iconst (v := 2) hx hb dX8_grows_54 (by decide) ?_
  refine lv_iload_n hx hb dX8_grows_55 rfl (lv_at hl 1 rfl) ?_
  refine lv_iadd hx hb dX8_grows_56 ?_
  obtain ⟨v33, q34, hf⟩ := ob hf
  refine aldM X hw kdv_201 q34 dX8_grows_57 ?_
  refine lv_iadd hx hb dX8_grows_58 ?_
  refine lv_iload_n hx hb dX8_grows_59 rfl (lv_at hl 2 rfl) ?_
  obtain ⟨M35, q36, hf⟩ := ob hf
  refine astM X hw kdv_201 q36 dX8_grows_60 (fun H locs hw => ?_)
  refine lv_aload_n hx hb dX8_grows_61 rfl (lv_at hl 0 rfl) ?_
  refine gt_X8 X hw 5 kk_197 rfl (by decide) mw_726 rfl dX8_grows_62 ?_
  refine lv_iconst (v := 2) hx hb dX8_grows_65 (by decide) ?_
  refine lv_iload_n hx hb dX8_grows_66 rfl (lv_at hl 1 rfl) ?_
  refine lv_iadd hx hb dX8_grows_67 ?_
  refine lv_dup2_11 hx hb dX8_grows_68 rfl rfl ?_
  obtain ⟨v37, q38, hf⟩ := ob hf
  refine aldM X hw kdv_201 q38 dX8_grows_69 ?_
  refine lv_iconst (v := 1) hx hb dX8_grows_70 (by decide) ?_
  refine lv_iadd hx hb dX8_grows_71 ?_
  obtain ⟨M39, q40, hf⟩ := ob hf
  refine astM X hw kdv_201 q40 dX8_grows_72 (fun H locs hw => ?_)
  replace hf := Option.some.inj hf
  subst hf
  exact eV X hw hr hlk dX8_grows_73
set_option maxHeartbeats 4000000 in
set_option maxRecDepth 100000 in
theorem ctX8_grows (l : Launch) (E : EE) (b : Nat) {MC : Mem} {TC : Int64} {TM : Int64} {x1 : Int32} {M : Mem} {res : Mem}  (hf : gX8_grows x1 M = some res) : MetV l E b yX8_grows (.code yX8_grows cX8_grows 3 none) rmX8_grows [.ref (b + 197), .int x1] MC TC M TM MC TC res TM := by
  refine Met.ofW (cc := cX8_grows) (maxL := 3) (ret := none) (by decide) rfl ?_
  intro p e s m args below meth c s₁ B hml hv
  obtain ⟨rfl, hP, hK⟩ := hv
  have hx := B.exec
  have hb := B.bytes
  have X : CX E p s m _ c cX8_grows 3 RX8 := ⟨hx, hb, hml, findClass_of_methodNamed B.named, fun w h => atoms_spec (ws := _ :: wt) B.pre w (List.mem_cons_of_mem _ h), hK⟩
  have hr := B.returns
  have hlk := B.notSynchronized
  have hw : WW E b MC TC M TM s s.heap [] := ⟨hP, va_S.rf⟩
  have hl := lv_entry ([.ref (b + 197), .int x1]) (n := 3) (Nat.le_of_ble_eq_true rfl)
  rw [lg_entry_eq]
  generalize (lg_sl ([.ref (b + 197), .int x1]) ++ List.replicate (3 - (lg_sl ([.ref (b + 197), .int x1])).length) Slot.unset).toArray = ls at hl ⊢
  have hl : lv_has ls 3 [(0, .ref (b + 197)), (1, .int x1)] := hl
  obtain ⟨H, hH⟩ : ∃ H, H = s.heap := ⟨_, rfl⟩
  obtain ⟨locs, hL⟩ : ∃ L : List Loc, L = [] := ⟨_, rfl⟩
  rw [← hH, ← hL] at hw
  suffices hg : W p l e rmX8_grows s m _ below meth c H locs 0 0 (MQ below (va_Qv (fun (_ : Unit) => True) (fun _ t => PW E b MC TC res TM t) (AA b)) _ s 0 0 (AA b)) (F0 m 0 ls []) by rw [hH, hL] at hg; exact hg
  clear hH hL
  rw [gX8_grows] at hf
  refine lv_aload_n hx hb dX8_grows_0 rfl (lv_at hl 0 rfl) ?_
  refine lv_iload_n hx hb dX8_grows_1 rfl (lv_at hl 1 rfl) ?_
  refine lv_iconst (v := 0) hx hb dX8_grows_2 (by decide) ?_
  obtain ⟨u26, q27, hf⟩ := ob hf
  refine cVi (As := [.int x1, .int 0]) X hw (ctX8_thinks l E b  q27) ⟨mw_910, mw_912, mw_42, mw_61, mw_913⟩ hd_X8_thinks ⟨Nat.le_of_ble_eq_true rfl, Nat.le_of_ble_eq_true rfl, rfl, rfl⟩ (kdk kk_197 (by decide)) (ce_X8 E _ _ _ _ kk_197) (show vwCl[8]? = some (RX8, TX8, 31) from rfl) rfl hl.1 rfl (Nat.le_of_ble_eq_true rfl) dX8_grows_3 (fun H locs hw => ?_)
  refine lv_istore_n (lv' := [(2, .int u26), (0, .ref (b + 197)), (1, .int x1)]) hx hb dX8_grows_6 rfl hl (by decide) rfl (fun ls hl => ?_)
  refine lv_aload_n hx hb dX8_grows_7 rfl (lv_at hl 1 rfl) ?_
  refine gt_X8 X hw 5 kk_197 rfl (by decide) mw_726 rfl dX8_grows_8 ?_
  refine lv_bipush (v := 67) hx hb dX8_grows_11 (by decide) ?_
  refine lv_iload_n hx hb dX8_grows_13 rfl (lv_at hl 2 rfl) ?_
  refine lv_iadd hx hb dX8_grows_14 ?_
  refine lv_bipush (v := (-9)) hx hb dX8_grows_15 (by decide) ?_
  obtain ⟨M28, q29, hf⟩ := ob hf
  refine astM X hw kdv_201 q29 dX8_grows_17 (fun H locs hw => ?_)
  refine lv_aload_n hx hb dX8_grows_18 rfl (lv_at hl 1 rfl) ?_
  refine gt_X8 X hw 5 kk_197 rfl (by decide) mw_726 rfl dX8_grows_19 ?_
  refine lv_iconst (v := 2) hx hb dX8_grows_22 (by decide) ?_
  refine lv_iload_n hx hb dX8_grows_23 rfl (lv_at hl 2 rfl) ?_
  refine lv_iadd hx hb dX8_grows_24 ?_
  obtain ⟨v30, q31, hf⟩ := ob hf
  refine aldM X hw kdv_201 q31 dX8_grows_25 ?_
  refine lv_aload_n hx hb dX8_grows_26 rfl (lv_at hl 1 rfl) ?_
  refine gt_X8 X hw 4 kk_197 rfl (by decide) mw_725 rfl dX8_grows_27 ?_
  refine lv_icmp_ne (tgt := 39) hx hb dX8_grows_30 (by decide) (fun c32 => ?_) (fun c32 => ?_)
  · replace hf := (if_neg c32).symm.trans hf
    exact tX8_grows_39 X hr hlk x1 u26 M28 hf H locs ls hw (lv_sub hl [1, 2, 0] rfl)
  · replace hf := (if_pos c32).symm.trans hf
    refine lv_aload_n hx hb dX8_grows_33 rfl (lv_at hl 1 rfl) ?_
    refine lv_iload_n hx hb dX8_grows_34 rfl (lv_at hl 2 rfl) ?_
    refine lv_iconst (v := 1) hx hb dX8_grows_35 (by decide) ?_
    obtain ⟨u41, q42, hf⟩ := ob hf
    refine cVv (As := [.int x1, .int 1]) X hw (ctX8_loses l E b  q42) ⟨mw_914, mw_916, mw_43, mw_61, mw_917⟩ hd_X8_loses ⟨Nat.le_of_ble_eq_true rfl, Nat.le_of_ble_eq_true rfl, rfl, rfl⟩ (kdk kk_197 (by decide)) (ce_X8 E _ _ _ _ kk_197) (show vwCl[8]? = some (RX8, TX8, 31) from rfl) rfl hl.1 rfl (Nat.le_of_ble_eq_true rfl) dX8_grows_36 (fun H locs hw => ?_)
    exact tX8_grows_39 X hr hlk x1 u26 u41 hf H locs ls hw (lv_sub hl [1, 2, 0] rfl)

abbrev rmX8_days : Room := { frames := 2, cells := 0, slots := 0, locals := 45 }
theorem hd_X8_days : Hd yX8_days RX8 1 := by decide +kernel
def gX8_days_42  (k35 : Int32 → Int32 → Mem → Option (Int32 × Mem)) : Nat → Int32 → Int32 → Int32 → Mem → Option (Int32 × Mem)
  | 0, _, _, _, _ => none
  | n + 1, x1, x2, x3, M => if (M 197 0) ≤ x3 then ((ldA 1233 (M 201) 0).bind fun v55 => (stA 1233 M 201 0 (v55 + 1)).bind fun M57 => (some (x2 + 1)).bind fun z59 => k35 x1 z59 M57) else ((gX8_grows x3 M).bind fun u60 => (some (x3 + 1)).bind fun z62 => (gX8_days_42 k35 n) x1 x2 z62 u60)
def gX8_days_35   : Nat → Int32 → Int32 → Mem → Option (Int32 × Mem)
  | 0, _, _, _ => none
  | n + 1, x1, x2, M => if x1 ≤ x2 then ((ldA 1233 (M 201) 0).bind fun v52 => some (v52, M)) else (gX8_days_42 (gX8_days_35 n) FU x1 x2 0 M)
def gX8_days (x1 : Int32) (M : Mem) : Option (Int32 × Mem) := (gX8_in x1 1 9).bind fun u43 => if u43 = 0 then (some ((-1), M)) else ((ldA 1233 (M 201) 0).bind fun v46 => if (v46 + x1) ≤ 999 then ((gX8_remembers M).bind fun u49 => gX8_days_35 FU x1 0 u49) else (some ((-2), M)))
set_option maxHeartbeats 4000000 in
set_option maxRecDepth 100000 in
theorem tX8_days_42 {p : Program} {l : Launch} {e : Env} {s : State} {m : MethodId} {args : Array Value} {below : List Frame} {meth : Method} {c : Code} {E : EE} {b : Nat} {MC : Mem} {TC : Int64} {TM : Int64} {res : Int32 × Mem} (X : CX E p s m args c cX8_days 4 RX8) (hr : meth.sig.returnType = (some .int)) (hlk : meth.locks = false)   {k35 : Int32 → Int32 → Mem → Option (Int32 × Mem)} (hk35 : ∀ (x1 : Int32) (x2 : Int32) (M : Mem), k35 x1 x2 M = some res → ∀ (H : Heap) (locs : List Loc) (ls : Array Slot), WW E b MC TC M TM s H locs → lv_has ls 4 [(0, .ref (b + 197)), (1, .int x1), (2, .int x2)] → W p l e rmX8_days s m args below meth c H locs 0 0 (MQ below (va_Qi (fun x (_ : Unit) => x = res.1) (fun _ t => PW E b MC TC res.2 TM t) (AA b)) args s 0 0 (AA b)) (F0 m 35 ls [])) : ∀ (n : Nat) (x1 : Int32) (x2 : Int32) (x3 : Int32) (M : Mem), gX8_days_42 k35 n x1 x2 x3 M = some res → ∀ (H : Heap) (locs : List Loc) (ls : Array Slot), WW E b MC TC M TM s H locs → lv_has ls 4 [(0, .ref (b + 197)), (1, .int x1), (2, .int x2), (3, .int x3)] → W p l e rmX8_days s m args below meth c H locs 0 0 (MQ below (va_Qi (fun x (_ : Unit) => x = res.1) (fun _ t => PW E b MC TC res.2 TM t) (AA b)) args s 0 0 (AA b)) (F0 m 42 ls []) := by
  have hx := X.1
  have hb := X.2.1
  intro n
  induction n with
  | zero =>
    intro x1 x2 x3 M hf
    cases (show (none : Option (Int32 × Mem)) = some res from hf)
  | succ n ih =>
    intro x1 x2 x3 M hf H locs ls hw hl
    rw [gX8_days_42] at hf
    refine lv_iload_n hx hb dX8_days_42 rfl (lv_at hl 3 rfl) ?_
    refine lv_aload_n hx hb dX8_days_43 rfl (lv_at hl 0 rfl) ?_
    refine gt_X8 X hw 0 kk_197 rfl (by decide) mw_721 rfl dX8_days_44 ?_
    refine lv_icmp_ge (tgt := 61) hx hb dX8_days_47 (by decide) (fun c54 => ?_) (fun c54 => ?_)
    · replace hf := (if_pos c54).symm.trans hf
      refine lv_aload_n hx hb dX8_days_61 rfl (lv_at hl 0 rfl) ?_
      refine gt_X8 X hw 5 kk_197 rfl (by decide) mw_726 rfl dX8_days_62 ?_
      refine lv_iconst (v := 0) hx hb dX8_days_65 (by decide) ?_
      refine lv_dup2_11 hx hb dX8_days_66 rfl rfl ?_
      obtain ⟨v55, q56, hf⟩ := ob hf
      refine aldM X hw kdv_201 q56 dX8_days_67 ?_
      refine lv_iconst (v := 1) hx hb dX8_days_68 (by decide) ?_
      refine lv_iadd hx hb dX8_days_69 ?_
      obtain ⟨M57, q58, hf⟩ := ob hf
      refine astM X hw kdv_201 q58 dX8_days_70 (fun H locs hw => ?_)
      obtain ⟨z59, ez59⟩ : ∃ y : Int32, y = x2 + 1 := ⟨_, rfl⟩
      replace hf := nmb hf ez59
      refine lv_iinc (v := z59) (lv' := [(2, .int z59), (0, .ref (b + 197)), (1, .int x1), (3, .int x3)]) hx hb dX8_days_71 hl (k := 2) rfl (by rw [ez59]; rfl) (by decide) rfl (fun ls hl => ?_)
      refine lv_goto (tgt := 35) hx hb dX8_days_74 (by decide) ?_
      exact hk35 x1 z59 M57 hf H locs ls hw (lv_sub hl [1, 2, 0] rfl)
    · replace hf := (if_neg c54).symm.trans hf
      refine lv_aload_n hx hb dX8_days_50 rfl (lv_at hl 0 rfl) ?_
      refine lv_iload_n hx hb dX8_days_51 rfl (lv_at hl 3 rfl) ?_
      obtain ⟨u60, q61, hf⟩ := ob hf
      refine cVv (As := [.int x3]) X hw (ctX8_grows l E b  q61) ⟨mw_906, mw_908, mw_41, mw_61, mw_909⟩ hd_X8_grows ⟨Nat.le_of_ble_eq_true rfl, Nat.le_of_ble_eq_true rfl, rfl, rfl⟩ (kdk kk_197 (by decide)) (ce_X8 E _ _ _ _ kk_197) (show vwCl[8]? = some (RX8, TX8, 31) from rfl) rfl hl.1 rfl (Nat.le_of_ble_eq_true rfl) dX8_days_52 (fun H locs hw => ?_)
      obtain ⟨z62, ez62⟩ : ∃ y : Int32, y = x3 + 1 := ⟨_, rfl⟩
      replace hf := nmb hf ez62
      refine lv_iinc (v := z62) (lv' := [(3, .int z62), (0, .ref (b + 197)), (1, .int x1), (2, .int x2)]) hx hb dX8_days_55 hl (k := 3) rfl (by rw [ez62]; rfl) (by decide) rfl (fun ls hl => ?_)
      refine lv_goto (tgt := 42) hx hb dX8_days_58 (by decide) ?_
      exact ih x1 x2 z62 u60 hf H locs ls hw (lv_sub hl [1, 2, 3, 0] rfl)
set_option maxHeartbeats 4000000 in
set_option maxRecDepth 100000 in
theorem tX8_days_35 {p : Program} {l : Launch} {e : Env} {s : State} {m : MethodId} {args : Array Value} {below : List Frame} {meth : Method} {c : Code} {E : EE} {b : Nat} {MC : Mem} {TC : Int64} {TM : Int64} {res : Int32 × Mem} (X : CX E p s m args c cX8_days 4 RX8) (hr : meth.sig.returnType = (some .int)) (hlk : meth.locks = false)    : ∀ (n : Nat) (x1 : Int32) (x2 : Int32) (M : Mem), gX8_days_35 n x1 x2 M = some res → ∀ (H : Heap) (locs : List Loc) (ls : Array Slot), WW E b MC TC M TM s H locs → lv_has ls 4 [(0, .ref (b + 197)), (1, .int x1), (2, .int x2)] → W p l e rmX8_days s m args below meth c H locs 0 0 (MQ below (va_Qi (fun x (_ : Unit) => x = res.1) (fun _ t => PW E b MC TC res.2 TM t) (AA b)) args s 0 0 (AA b)) (F0 m 35 ls []) := by
  have hx := X.1
  have hb := X.2.1
  intro n
  induction n with
  | zero =>
    intro x1 x2 M hf
    cases (show (none : Option (Int32 × Mem)) = some res from hf)
  | succ n ih =>
    intro x1 x2 M hf H locs ls hw hl
    rw [gX8_days_35] at hf
    refine lv_iload_n hx hb dX8_days_35 rfl (lv_at hl 2 rfl) ?_
    refine lv_iload_n hx hb dX8_days_36 rfl (lv_at hl 1 rfl) ?_
    refine lv_icmp_ge (tgt := 77) hx hb dX8_days_37 (by decide) (fun c51 => ?_) (fun c51 => ?_)
    · replace hf := (if_pos c51).symm.trans hf
      refine lv_aload_n hx hb dX8_days_77 rfl (lv_at hl 0 rfl) ?_
      refine gt_X8 X hw 5 kk_197 rfl (by decide) mw_726 rfl dX8_days_78 ?_
      refine lv_iconst (v := 0) hx hb dX8_days_81 (by decide) ?_
      obtain ⟨v52, q53, hf⟩ := ob hf
      refine aldM X hw kdv_201 q53 dX8_days_82 ?_
      replace hf := Option.some.inj hf
      subst hf
      exact eI X hw hr hlk dX8_days_83
    · replace hf := (if_neg c51).symm.trans hf
      refine lv_iconst (v := 0) hx hb dX8_days_40 (by decide) ?_
      refine lv_istore_n (lv' := [(3, .int 0), (0, .ref (b + 197)), (1, .int x1), (2, .int x2)]) hx hb dX8_days_41 rfl hl (by decide) rfl (fun ls hl => ?_)
      exact tX8_days_42 X hr hlk ih FU x1 x2 0 M hf H locs ls hw (lv_sub hl [1, 2, 3, 0] rfl)
set_option maxHeartbeats 4000000 in
set_option maxRecDepth 100000 in
theorem ctX8_days (l : Launch) (E : EE) (b : Nat) {MC : Mem} {TC : Int64} {TM : Int64} {x1 : Int32} {M : Mem} {res : Int32 × Mem}  (hf : gX8_days x1 M = some res) : MetI l E b yX8_days (.code yX8_days cX8_days 4 (some .int)) rmX8_days [.ref (b + 197), .int x1] MC TC M TM res.1 MC TC res.2 TM := by
  refine Met.ofW (cc := cX8_days) (maxL := 4) (ret := (some .int)) (by decide) rfl ?_
  intro p e s m args below meth c s₁ B hml hv
  obtain ⟨rfl, hP, hK⟩ := hv
  have hx := B.exec
  have hb := B.bytes
  have X : CX E p s m _ c cX8_days 4 RX8 := ⟨hx, hb, hml, findClass_of_methodNamed B.named, fun w h => atoms_spec (ws := _ :: wt) B.pre w (List.mem_cons_of_mem _ h), hK⟩
  have hr := B.returns
  have hlk := B.notSynchronized
  have hw : WW E b MC TC M TM s s.heap [] := ⟨hP, va_S.rf⟩
  have hl := lv_entry ([.ref (b + 197), .int x1]) (n := 4) (Nat.le_of_ble_eq_true rfl)
  rw [lg_entry_eq]
  generalize (lg_sl ([.ref (b + 197), .int x1]) ++ List.replicate (4 - (lg_sl ([.ref (b + 197), .int x1])).length) Slot.unset).toArray = ls at hl ⊢
  have hl : lv_has ls 4 [(0, .ref (b + 197)), (1, .int x1)] := hl
  obtain ⟨H, hH⟩ : ∃ H, H = s.heap := ⟨_, rfl⟩
  obtain ⟨locs, hL⟩ : ∃ L : List Loc, L = [] := ⟨_, rfl⟩
  rw [← hH, ← hL] at hw
  suffices hg : W p l e rmX8_days s m _ below meth c H locs 0 0 (MQ below (va_Qi (fun x (_ : Unit) => x = res.1) (fun _ t => PW E b MC TC res.2 TM t) (AA b)) _ s 0 0 (AA b)) (F0 m 0 ls []) by rw [hH, hL] at hg; exact hg
  clear hH hL
  rw [gX8_days] at hf
  refine lv_iload_n hx hb dX8_days_0 rfl (lv_at hl 1 rfl) ?_
  refine lv_iconst (v := 1) hx hb dX8_days_1 (by decide) ?_
  refine lv_bipush (v := 9) hx hb dX8_days_2 (by decide) ?_
  obtain ⟨u43, q44, hf⟩ := ob hf
  refine cSi (As := [.int x1, .int 1, .int 9]) X hw (ctX8_in l E b  q44) ⟨mw_819, mw_820, mw_61, mw_821⟩ hd_X8_in ⟨Nat.le_of_ble_eq_true rfl, Nat.le_of_ble_eq_true rfl, rfl, rfl⟩ rfl hl.1 rfl (Nat.le_of_ble_eq_true rfl) dX8_days_4 (fun H locs hw => ?_)
  refine lv_if_ne (tgt := 12) hx hb dX8_days_7 (by decide) (fun c45 => ?_) (fun c45 => ?_)
  · replace hf := (if_neg c45).symm.trans hf
    refine lv_aload_n hx hb dX8_days_12 rfl (lv_at hl 0 rfl) ?_
    refine gt_X8 X hw 5 kk_197 rfl (by decide) mw_726 rfl dX8_days_13 ?_
    refine lv_iconst (v := 0) hx hb dX8_days_16 (by decide) ?_
    obtain ⟨v46, q47, hf⟩ := ob hf
    refine aldM X hw kdv_201 q47 dX8_days_17 ?_
    refine lv_iload_n hx hb dX8_days_18 rfl (lv_at hl 1 rfl) ?_
    refine lv_iadd hx hb dX8_days_19 ?_
    refine lv_sipush (v := 999) hx hb dX8_days_20 (by decide) ?_
    refine lv_icmp_le (tgt := 29) hx hb dX8_days_23 (by decide) (fun c48 => ?_) (fun c48 => ?_)
    · replace hf := (if_pos c48).symm.trans hf
      refine lv_aload_n hx hb dX8_days_29 rfl (lv_at hl 0 rfl) ?_
      obtain ⟨u49, q50, hf⟩ := ob hf
      refine cVv (As := []) X hw (ctX8_remembers l E b  q50) ⟨mw_902, mw_904, mw_40, mw_61, mw_905⟩ hd_X8_remembers ⟨Nat.le_of_ble_eq_true rfl, Nat.le_of_ble_eq_true rfl, rfl, rfl⟩ (kdk kk_197 (by decide)) (ce_X8 E _ _ _ _ kk_197) (show vwCl[8]? = some (RX8, TX8, 31) from rfl) rfl hl.1 rfl (Nat.le_of_ble_eq_true rfl) dX8_days_30 (fun H locs hw => ?_)
      refine lv_iconst (v := 0) hx hb dX8_days_33 (by decide) ?_
      refine lv_istore_n (lv' := [(2, .int 0), (0, .ref (b + 197)), (1, .int x1)]) hx hb dX8_days_34 rfl hl (by decide) rfl (fun ls hl => ?_)
      exact tX8_days_35 X hr hlk FU x1 0 u49 hf H locs ls hw (lv_sub hl [1, 2, 0] rfl)
    · replace hf := (if_neg c48).symm.trans hf
      refine lv_bipush (v := (-2)) hx hb dX8_days_26 (by decide) ?_
      replace hf := Option.some.inj hf
      subst hf
      exact eI X hw hr hlk dX8_days_28
  · replace hf := (if_pos c45).symm.trans hf
    refine lv_iconst (v := (-1)) hx hb dX8_days_10 (by decide) ?_
    replace hf := Option.some.inj hf
    subst hf
    exact eI X hw hr hlk dX8_days_11

abbrev rmX8_minds : Room := { frames := 2, cells := 0, slots := 0, locals := 43 }
theorem hd_X8_minds : Hd yX8_minds RX8 2 := by decide +kernel
def gX8_minds (x1 : Int32) (x2 : Int32) (M : Mem) : Option (Int32 × Mem) := (gX8_isOne x1 M).bind fun u63 => if u63 = 0 then (some ((-1), M)) else ((gX8_isThought x2).bind fun u66 => if u66 = 0 then (some ((-1), M)) else ((ldA 1233 (M 201) (67 + x1)).bind fun v69 => if v69 = x2 then (some ((-2), M)) else ((gX8_remembers M).bind fun u72 => (stA 1233 u72 201 (67 + x1) x2).bind fun M74 => some (v69, M74))))
set_option maxHeartbeats 4000000 in
set_option maxRecDepth 100000 in
theorem ctX8_minds (l : Launch) (E : EE) (b : Nat) {MC : Mem} {TC : Int64} {TM : Int64} {x1 : Int32} {x2 : Int32} {M : Mem} {res : Int32 × Mem}  (hf : gX8_minds x1 x2 M = some res) : MetI l E b yX8_minds (.code yX8_minds cX8_minds 4 (some .int)) rmX8_minds [.ref (b + 197), .int x1, .int x2] MC TC M TM res.1 MC TC res.2 TM := by
  refine Met.ofW (cc := cX8_minds) (maxL := 4) (ret := (some .int)) (by decide) rfl ?_
  intro p e s m args below meth c s₁ B hml hv
  obtain ⟨rfl, hP, hK⟩ := hv
  have hx := B.exec
  have hb := B.bytes
  have X : CX E p s m _ c cX8_minds 4 RX8 := ⟨hx, hb, hml, findClass_of_methodNamed B.named, fun w h => atoms_spec (ws := _ :: wt) B.pre w (List.mem_cons_of_mem _ h), hK⟩
  have hr := B.returns
  have hlk := B.notSynchronized
  have hw : WW E b MC TC M TM s s.heap [] := ⟨hP, va_S.rf⟩
  have hl := lv_entry ([.ref (b + 197), .int x1, .int x2]) (n := 4) (Nat.le_of_ble_eq_true rfl)
  rw [lg_entry_eq]
  generalize (lg_sl ([.ref (b + 197), .int x1, .int x2]) ++ List.replicate (4 - (lg_sl ([.ref (b + 197), .int x1, .int x2])).length) Slot.unset).toArray = ls at hl ⊢
  have hl : lv_has ls 4 [(0, .ref (b + 197)), (1, .int x1), (2, .int x2)] := hl
  obtain ⟨H, hH⟩ : ∃ H, H = s.heap := ⟨_, rfl⟩
  obtain ⟨locs, hL⟩ : ∃ L : List Loc, L = [] := ⟨_, rfl⟩
  rw [← hH, ← hL] at hw
  suffices hg : W p l e rmX8_minds s m _ below meth c H locs 0 0 (MQ below (va_Qi (fun x (_ : Unit) => x = res.1) (fun _ t => PW E b MC TC res.2 TM t) (AA b)) _ s 0 0 (AA b)) (F0 m 0 ls []) by rw [hH, hL] at hg; exact hg
  clear hH hL
  rw [gX8_minds] at hf
  refine lv_aload_n hx hb dX8_minds_0 rfl (lv_at hl 0 rfl) ?_
  refine lv_iload_n hx hb dX8_minds_1 rfl (lv_at hl 1 rfl) ?_
  obtain ⟨u63, q64, hf⟩ := ob hf
  refine cVi (As := [.int x1]) X hw (ctX8_isOne l E b  q64) ⟨mw_868, mw_870, mw_37, mw_61, mw_871⟩ hd_X8_isOne ⟨Nat.le_of_ble_eq_true rfl, Nat.le_of_ble_eq_true rfl, rfl, rfl⟩ (kdk kk_197 (by decide)) (ce_X8 E _ _ _ _ kk_197) (show vwCl[8]? = some (RX8, TX8, 31) from rfl) rfl hl.1 rfl (Nat.le_of_ble_eq_true rfl) dX8_minds_2 (fun H locs hw => ?_)
  refine lv_if_eq (tgt := 15) hx hb dX8_minds_5 (by decide) (fun c65 => ?_) (fun c65 => ?_)
  · replace hf := (if_pos c65).symm.trans hf
    refine lv_iconst (v := (-1)) hx hb dX8_minds_15 (by decide) ?_
    replace hf := Option.some.inj hf
    subst hf
    exact eI X hw hr hlk dX8_minds_16
  · replace hf := (if_neg c65).symm.trans hf
    refine lv_iload_n hx hb dX8_minds_8 rfl (lv_at hl 2 rfl) ?_
    obtain ⟨u66, q67, hf⟩ := ob hf
    refine cSi (As := [.int x2]) X hw (ctX8_isThought l E b  q67) ⟨mw_895, mw_896, mw_61, mw_897⟩ hd_X8_isThought ⟨Nat.le_of_ble_eq_true rfl, Nat.le_of_ble_eq_true rfl, rfl, rfl⟩ rfl hl.1 rfl (Nat.le_of_ble_eq_true rfl) dX8_minds_9 (fun H locs hw => ?_)
    refine lv_if_ne (tgt := 17) hx hb dX8_minds_12 (by decide) (fun c68 => ?_) (fun c68 => ?_)
    · replace hf := (if_neg c68).symm.trans hf
      refine lv_aload_n hx hb dX8_minds_17 rfl (lv_at hl 0 rfl) ?_
      refine gt_X8 X hw 5 kk_197 rfl (by decide) mw_726 rfl dX8_minds_18 ?_
      refine lv_bipush (v := 67) hx hb dX8_minds_21 (by decide) ?_
      refine lv_iload_n hx hb dX8_minds_23 rfl (lv_at hl 1 rfl) ?_
      refine lv_iadd hx hb dX8_minds_24 ?_
      obtain ⟨v69, q70, hf⟩ := ob hf
      refine aldM X hw kdv_201 q70 dX8_minds_25 ?_
      refine lv_istore_n (lv' := [(3, .int v69), (0, .ref (b + 197)), (1, .int x1), (2, .int x2)]) hx hb dX8_minds_26 rfl hl (by decide) rfl (fun ls hl => ?_)
      refine lv_iload_n hx hb dX8_minds_27 rfl (lv_at hl 0 rfl) ?_
      refine lv_iload_n hx hb dX8_minds_28 rfl (lv_at hl 3 rfl) ?_
      refine lv_icmp_ne (tgt := 35) hx hb dX8_minds_29 (by decide) (fun c71 => ?_) (fun c71 => ?_)
      · replace hf := (if_neg c71).symm.trans hf
        refine lv_aload_n hx hb dX8_minds_35 rfl (lv_at hl 1 rfl) ?_
        obtain ⟨u72, q73, hf⟩ := ob hf
        refine cVv (As := []) X hw (ctX8_remembers l E b  q73) ⟨mw_902, mw_904, mw_40, mw_61, mw_905⟩ hd_X8_remembers ⟨Nat.le_of_ble_eq_true rfl, Nat.le_of_ble_eq_true rfl, rfl, rfl⟩ (kdk kk_197 (by decide)) (ce_X8 E _ _ _ _ kk_197) (show vwCl[8]? = some (RX8, TX8, 31) from rfl) rfl hl.1 rfl (Nat.le_of_ble_eq_true rfl) dX8_minds_36 (fun H locs hw => ?_)
        refine lv_aload_n hx hb dX8_minds_39 rfl (lv_at hl 1 rfl) ?_
        refine gt_X8 X hw 5 kk_197 rfl (by decide) mw_726 rfl dX8_minds_40 ?_
        refine lv_bipush (v := 67) hx hb dX8_minds_43 (by decide) ?_
        refine lv_iload_n hx hb dX8_minds_45 rfl (lv_at hl 2 rfl) ?_
        refine lv_iadd hx hb dX8_minds_46 ?_
        refine lv_iload_n hx hb dX8_minds_47 rfl (lv_at hl 3 rfl) ?_
        obtain ⟨M74, q75, hf⟩ := ob hf
        refine astM X hw kdv_201 q75 dX8_minds_48 (fun H locs hw => ?_)
        refine lv_iload_n hx hb dX8_minds_49 rfl (lv_at hl 0 rfl) ?_
        replace hf := Option.some.inj hf
        subst hf
        exact eI X hw hr hlk dX8_minds_50
      · replace hf := (if_pos c71).symm.trans hf
        refine lv_bipush (v := (-2)) hx hb dX8_minds_32 (by decide) ?_
        replace hf := Option.some.inj hf
        subst hf
        exact eI X hw hr hlk dX8_minds_34
    · replace hf := (if_pos c68).symm.trans hf
      refine lv_iconst (v := (-1)) hx hb dX8_minds_15 (by decide) ?_
      replace hf := Option.some.inj hf
      subst hf
      exact eI X hw hr hlk dX8_minds_16

abbrev rmX8_cuts : Room := { frames := 2, cells := 0, slots := 0, locals := 43 }
theorem hd_X8_cuts : Hd yX8_cuts RX8 2 := by decide +kernel
def gX8_cuts_92  (k41 : Int32 → Int32 → Int32 → Mem → Option (Int32 × Mem)) (x1 : Int32) (x2 : Int32) (x3 : Int32) (y0 : Int32) (y1 : Int32) (y2 : Int32) (M : Mem) : Option (Int32 × Mem) := (stA 1233 M 201 y2 (y1 + y0)).bind fun M102 => (some (x3 + 1)).bind fun z104 => k41 x1 x2 z104 M102
def gX8_cuts_41   : Nat → Int32 → Int32 → Int32 → Mem → Option (Int32 × Mem)
  | 0, _, _, _, _ => none
  | n + 1, x1, x2, x3, M => if x2 ≤ x3 then ((gX8_loses x1 x2 M).bind fun u88 => (ldA 1233 (u88 201) (2 + x1)).bind fun v90 => some (v90, u88)) else ((ldA 1233 (M 201) 1).bind fun v92 => (gX8_layerOf x1 x3 M).bind fun u94 => (some ((72 + (10 * v92)) + u94)).bind fun z96 => (ldA 1233 (M 201) z96).bind fun v97 => (ldA 1233 (M 201) z96).bind fun v99 => if 99 ≤ v99 then (gX8_cuts_92 (gX8_cuts_41 n) x1 x2 x3 0 v97 z96 M) else (gX8_cuts_92 (gX8_cuts_41 n) x1 x2 x3 1 v97 z96 M))
def gX8_cuts (x1 : Int32) (x2 : Int32) (M : Mem) : Option (Int32 × Mem) := (gX8_isOne x1 M).bind fun u76 => if u76 = 0 then (some ((-1), M)) else ((gX8_in x2 1 12).bind fun u79 => if u79 = 0 then (some ((-1), M)) else ((ldA 1233 (M 201) (2 + x1)).bind fun v82 => if x2 ≤ v82 then ((gX8_remembers M).bind fun u85 => gX8_cuts_41 FU x1 x2 0 u85) else (some ((-2), M))))
set_option maxHeartbeats 4000000 in
set_option maxRecDepth 100000 in
theorem tX8_cuts_92 {p : Program} {l : Launch} {e : Env} {s : State} {m : MethodId} {args : Array Value} {below : List Frame} {meth : Method} {c : Code} {E : EE} {b : Nat} {MC : Mem} {TC : Int64} {TM : Int64} {res : Int32 × Mem} (X : CX E p s m args c cX8_cuts 5 RX8) (hr : meth.sig.returnType = (some .int)) (hlk : meth.locks = false)   {k41 : Int32 → Int32 → Int32 → Mem → Option (Int32 × Mem)} (hk41 : ∀ (x1 : Int32) (x2 : Int32) (x3 : Int32) (M : Mem), k41 x1 x2 x3 M = some res → ∀ (H : Heap) (locs : List Loc) (ls : Array Slot), WW E b MC TC M TM s H locs → lv_has ls 5 [(0, .ref (b + 197)), (1, .int x1), (2, .int x2), (3, .int x3)] → W p l e rmX8_cuts s m args below meth c H locs 0 0 (MQ below (va_Qi (fun x (_ : Unit) => x = res.1) (fun _ t => PW E b MC TC res.2 TM t) (AA b)) args s 0 0 (AA b)) (F0 m 41 ls [])) : ∀ (x1 : Int32) (x2 : Int32) (x3 : Int32) (y0 : Int32) (y1 : Int32) (y2 : Int32) (M : Mem), gX8_cuts_92 k41 x1 x2 x3 y0 y1 y2 M = some res → ∀ (H : Heap) (locs : List Loc) (ls : Array Slot), WW E b MC TC M TM s H locs → lv_has ls 5 [(0, .ref (b + 197)), (1, .int x1), (2, .int x2), (3, .int x3)] → W p l e rmX8_cuts s m args below meth c H locs 0 0 (MQ below (va_Qi (fun x (_ : Unit) => x = res.1) (fun _ t => PW E b MC TC res.2 TM t) (AA b)) args s 0 0 (AA b)) (F0 m 92 ls [.int y0, .int y1, .int y2, .ref (b + 201)]) := by
  have hx := X.1
  have hb := X.2.1
  intro x1 x2 x3 y0 y1 y2 M hf H locs ls hw hl
  rw [gX8_cuts_92] at hf
  refine lv_iadd hx hb dX8_cuts_92 ?_
  obtain ⟨M102, q103, hf⟩ := ob hf
  refine astM X hw kdv_201 q103 dX8_cuts_93 (fun H locs hw => ?_)
  obtain ⟨z104, ez104⟩ : ∃ y : Int32, y = x3 + 1 := ⟨_, rfl⟩
  replace hf := nmb hf ez104
  refine lv_iinc (v := z104) (lv' := [(3, .int z104), (0, .ref (b + 197)), (1, .int x1), (2, .int x2)]) hx hb dX8_cuts_94 hl (k := 3) rfl (by rw [ez104]; rfl) (by decide) rfl (fun ls hl => ?_)
  refine lv_goto (tgt := 41) hx hb dX8_cuts_97 (by decide) ?_
  exact hk41 x1 x2 z104 M102 hf H locs ls hw (lv_sub hl [1, 2, 3, 0] rfl)
set_option maxHeartbeats 4000000 in
set_option maxRecDepth 100000 in
theorem tX8_cuts_41 {p : Program} {l : Launch} {e : Env} {s : State} {m : MethodId} {args : Array Value} {below : List Frame} {meth : Method} {c : Code} {E : EE} {b : Nat} {MC : Mem} {TC : Int64} {TM : Int64} {res : Int32 × Mem} (X : CX E p s m args c cX8_cuts 5 RX8) (hr : meth.sig.returnType = (some .int)) (hlk : meth.locks = false)    : ∀ (n : Nat) (x1 : Int32) (x2 : Int32) (x3 : Int32) (M : Mem), gX8_cuts_41 n x1 x2 x3 M = some res → ∀ (H : Heap) (locs : List Loc) (ls : Array Slot), WW E b MC TC M TM s H locs → lv_has ls 5 [(0, .ref (b + 197)), (1, .int x1), (2, .int x2), (3, .int x3)] → W p l e rmX8_cuts s m args below meth c H locs 0 0 (MQ below (va_Qi (fun x (_ : Unit) => x = res.1) (fun _ t => PW E b MC TC res.2 TM t) (AA b)) args s 0 0 (AA b)) (F0 m 41 ls []) := by
  have hx := X.1
  have hb := X.2.1
  intro n
  induction n with
  | zero =>
    intro x1 x2 x3 M hf
    cases (show (none : Option (Int32 × Mem)) = some res from hf)
  | succ n ih =>
    intro x1 x2 x3 M hf H locs ls hw hl
    rw [gX8_cuts_41] at hf
    refine lv_iload_n hx hb dX8_cuts_41 rfl (lv_at hl 3 rfl) ?_
    refine lv_iload_n hx hb dX8_cuts_42 rfl (lv_at hl 2 rfl) ?_
    refine lv_icmp_ge (tgt := 100) hx hb dX8_cuts_43 (by decide) (fun c87 => ?_) (fun c87 => ?_)
    · replace hf := (if_pos c87).symm.trans hf
      refine lv_aload_n hx hb dX8_cuts_100 rfl (lv_at hl 0 rfl) ?_
      refine lv_iload_n hx hb dX8_cuts_101 rfl (lv_at hl 1 rfl) ?_
      refine lv_iload_n hx hb dX8_cuts_102 rfl (lv_at hl 2 rfl) ?_
      obtain ⟨u88, q89, hf⟩ := ob hf
      refine cVv (As := [.int x1, .int x2]) X hw (ctX8_loses l E b  q89) ⟨mw_914, mw_916, mw_43, mw_61, mw_917⟩ hd_X8_loses ⟨Nat.le_of_ble_eq_true rfl, Nat.le_of_ble_eq_true rfl, rfl, rfl⟩ (kdk kk_197 (by decide)) (ce_X8 E _ _ _ _ kk_197) (show vwCl[8]? = some (RX8, TX8, 31) from rfl) rfl hl.1 rfl (Nat.le_of_ble_eq_true rfl) dX8_cuts_103 (fun H locs hw => ?_)
      refine lv_aload_n hx hb dX8_cuts_106 rfl (lv_at hl 0 rfl) ?_
      refine gt_X8 X hw 5 kk_197 rfl (by decide) mw_726 rfl dX8_cuts_107 ?_
      refine lv_iconst (v := 2) hx hb dX8_cuts_110 (by decide) ?_
      refine lv_iload_n hx hb dX8_cuts_111 rfl (lv_at hl 1 rfl) ?_
      refine lv_iadd hx hb dX8_cuts_112 ?_
      obtain ⟨v90, q91, hf⟩ := ob hf
      refine aldM X hw kdv_201 q91 dX8_cuts_113 ?_
      replace hf := Option.some.inj hf
      subst hf
      exact eI X hw hr hlk dX8_cuts_114
    · replace hf := (if_neg c87).symm.trans hf
      refine lv_bipush (v := 72) hx hb dX8_cuts_46 (by decide) ?_
      refine lv_bipush (v := 10) hx hb dX8_cuts_48 (by decide) ?_
      refine lv_aload_n hx hb dX8_cuts_50 rfl (lv_at hl 0 rfl) ?_
      refine gt_X8 X hw 5 kk_197 rfl (by decide) mw_726 rfl dX8_cuts_51 ?_
      refine lv_iconst (v := 1) hx hb dX8_cuts_54 (by decide) ?_
      obtain ⟨v92, q93, hf⟩ := ob hf
      refine aldM X hw kdv_201 q93 dX8_cuts_55 ?_
      refine lv_imul hx hb dX8_cuts_56 ?_
      refine lv_iadd hx hb dX8_cuts_57 ?_
      refine lv_aload_n hx hb dX8_cuts_58 rfl (lv_at hl 0 rfl) ?_
      refine lv_iload_n hx hb dX8_cuts_59 rfl (lv_at hl 1 rfl) ?_
      refine lv_iload_n hx hb dX8_cuts_60 rfl (lv_at hl 3 rfl) ?_
      obtain ⟨u94, q95, hf⟩ := ob hf
      refine cVi (As := [.int x1, .int x3]) X hw (ctX8_layerOf l E b  q95) ⟨mw_876, mw_878, mw_39, mw_61, mw_879⟩ hd_X8_layerOf ⟨Nat.le_of_ble_eq_true rfl, Nat.le_of_ble_eq_true rfl, rfl, rfl⟩ (kdk kk_197 (by decide)) (ce_X8 E _ _ _ _ kk_197) (show vwCl[8]? = some (RX8, TX8, 31) from rfl) rfl hl.1 rfl (Nat.le_of_ble_eq_true rfl) dX8_cuts_61 (fun H locs hw => ?_)
      refine lv_iadd hx hb dX8_cuts_64 ?_
      refine lv_topi (fun z96 ez96 => ?_)
      replace hf := nmb hf ez96
      refine lv_istore (lv' := [(4, .int z96), (0, .ref (b + 197)), (1, .int x1), (2, .int x2), (3, .int x3)]) hx hb dX8_cuts_65 hl (by decide) rfl (fun ls hl => ?_)
      refine lv_aload_n hx hb dX8_cuts_67 rfl (lv_at hl 1 rfl) ?_
      refine gt_X8 X hw 5 kk_197 rfl (by decide) mw_726 rfl dX8_cuts_68 ?_
      refine lv_iload hx hb dX8_cuts_71 (lv_at hl 0 rfl) ?_
      refine lv_dup2_11 hx hb dX8_cuts_73 rfl rfl ?_
      obtain ⟨v97, q98, hf⟩ := ob hf
      refine aldM X hw kdv_201 q98 dX8_cuts_74 ?_
      refine lv_aload_n hx hb dX8_cuts_75 rfl (lv_at hl 1 rfl) ?_
      refine gt_X8 X hw 5 kk_197 rfl (by decide) mw_726 rfl dX8_cuts_76 ?_
      refine lv_iload hx hb dX8_cuts_79 (lv_at hl 0 rfl) ?_
      obtain ⟨v99, q100, hf⟩ := ob hf
      refine aldM X hw kdv_201 q100 dX8_cuts_81 ?_
      refine lv_bipush (v := 99) hx hb dX8_cuts_82 (by decide) ?_
      refine lv_icmp_ge (tgt := 91) hx hb dX8_cuts_84 (by decide) (fun c101 => ?_) (fun c101 => ?_)
      · replace hf := (if_pos c101).symm.trans hf
        refine lv_iconst (v := 0) hx hb dX8_cuts_91 (by decide) ?_
        exact tX8_cuts_92 X hr hlk ih x1 x2 x3 0 v97 z96 M hf H locs ls hw (lv_sub hl [1, 2, 3, 4] rfl)
      · replace hf := (if_neg c101).symm.trans hf
        refine lv_iconst (v := 1) hx hb dX8_cuts_87 (by decide) ?_
        refine lv_goto (tgt := 92) hx hb dX8_cuts_88 (by decide) ?_
        exact tX8_cuts_92 X hr hlk ih x1 x2 x3 1 v97 z96 M hf H locs ls hw (lv_sub hl [1, 2, 3, 4] rfl)
set_option maxHeartbeats 4000000 in
set_option maxRecDepth 100000 in
theorem ctX8_cuts (l : Launch) (E : EE) (b : Nat) {MC : Mem} {TC : Int64} {TM : Int64} {x1 : Int32} {x2 : Int32} {M : Mem} {res : Int32 × Mem}  (hf : gX8_cuts x1 x2 M = some res) : MetI l E b yX8_cuts (.code yX8_cuts cX8_cuts 5 (some .int)) rmX8_cuts [.ref (b + 197), .int x1, .int x2] MC TC M TM res.1 MC TC res.2 TM := by
  refine Met.ofW (cc := cX8_cuts) (maxL := 5) (ret := (some .int)) (by decide) rfl ?_
  intro p e s m args below meth c s₁ B hml hv
  obtain ⟨rfl, hP, hK⟩ := hv
  have hx := B.exec
  have hb := B.bytes
  have X : CX E p s m _ c cX8_cuts 5 RX8 := ⟨hx, hb, hml, findClass_of_methodNamed B.named, fun w h => atoms_spec (ws := _ :: wt) B.pre w (List.mem_cons_of_mem _ h), hK⟩
  have hr := B.returns
  have hlk := B.notSynchronized
  have hw : WW E b MC TC M TM s s.heap [] := ⟨hP, va_S.rf⟩
  have hl := lv_entry ([.ref (b + 197), .int x1, .int x2]) (n := 5) (Nat.le_of_ble_eq_true rfl)
  rw [lg_entry_eq]
  generalize (lg_sl ([.ref (b + 197), .int x1, .int x2]) ++ List.replicate (5 - (lg_sl ([.ref (b + 197), .int x1, .int x2])).length) Slot.unset).toArray = ls at hl ⊢
  have hl : lv_has ls 5 [(0, .ref (b + 197)), (1, .int x1), (2, .int x2)] := hl
  obtain ⟨H, hH⟩ : ∃ H, H = s.heap := ⟨_, rfl⟩
  obtain ⟨locs, hL⟩ : ∃ L : List Loc, L = [] := ⟨_, rfl⟩
  rw [← hH, ← hL] at hw
  suffices hg : W p l e rmX8_cuts s m _ below meth c H locs 0 0 (MQ below (va_Qi (fun x (_ : Unit) => x = res.1) (fun _ t => PW E b MC TC res.2 TM t) (AA b)) _ s 0 0 (AA b)) (F0 m 0 ls []) by rw [hH, hL] at hg; exact hg
  clear hH hL
  rw [gX8_cuts] at hf
  refine lv_aload_n hx hb dX8_cuts_0 rfl (lv_at hl 0 rfl) ?_
  refine lv_iload_n hx hb dX8_cuts_1 rfl (lv_at hl 1 rfl) ?_
  obtain ⟨u76, q77, hf⟩ := ob hf
  refine cVi (As := [.int x1]) X hw (ctX8_isOne l E b  q77) ⟨mw_868, mw_870, mw_37, mw_61, mw_871⟩ hd_X8_isOne ⟨Nat.le_of_ble_eq_true rfl, Nat.le_of_ble_eq_true rfl, rfl, rfl⟩ (kdk kk_197 (by decide)) (ce_X8 E _ _ _ _ kk_197) (show vwCl[8]? = some (RX8, TX8, 31) from rfl) rfl hl.1 rfl (Nat.le_of_ble_eq_true rfl) dX8_cuts_2 (fun H locs hw => ?_)
  refine lv_if_eq (tgt := 18) hx hb dX8_cuts_5 (by decide) (fun c78 => ?_) (fun c78 => ?_)
  · replace hf := (if_pos c78).symm.trans hf
    refine lv_iconst (v := (-1)) hx hb dX8_cuts_18 (by decide) ?_
    replace hf := Option.some.inj hf
    subst hf
    exact eI X hw hr hlk dX8_cuts_19
  · replace hf := (if_neg c78).symm.trans hf
    refine lv_iload_n hx hb dX8_cuts_8 rfl (lv_at hl 2 rfl) ?_
    refine lv_iconst (v := 1) hx hb dX8_cuts_9 (by decide) ?_
    refine lv_bipush (v := 12) hx hb dX8_cuts_10 (by decide) ?_
    obtain ⟨u79, q80, hf⟩ := ob hf
    refine cSi (As := [.int x2, .int 1, .int 12]) X hw (ctX8_in l E b  q80) ⟨mw_819, mw_820, mw_61, mw_821⟩ hd_X8_in ⟨Nat.le_of_ble_eq_true rfl, Nat.le_of_ble_eq_true rfl, rfl, rfl⟩ rfl hl.1 rfl (Nat.le_of_ble_eq_true rfl) dX8_cuts_12 (fun H locs hw => ?_)
    refine lv_if_ne (tgt := 20) hx hb dX8_cuts_15 (by decide) (fun c81 => ?_) (fun c81 => ?_)
    · replace hf := (if_neg c81).symm.trans hf
      refine lv_aload_n hx hb dX8_cuts_20 rfl (lv_at hl 0 rfl) ?_
      refine gt_X8 X hw 5 kk_197 rfl (by decide) mw_726 rfl dX8_cuts_21 ?_
      refine lv_iconst (v := 2) hx hb dX8_cuts_24 (by decide) ?_
      refine lv_iload_n hx hb dX8_cuts_25 rfl (lv_at hl 1 rfl) ?_
      refine lv_iadd hx hb dX8_cuts_26 ?_
      obtain ⟨v82, q83, hf⟩ := ob hf
      refine aldM X hw kdv_201 q83 dX8_cuts_27 ?_
      refine lv_iload_n hx hb dX8_cuts_28 rfl (lv_at hl 2 rfl) ?_
      refine lv_icmp_ge (tgt := 35) hx hb dX8_cuts_29 (by decide) (fun c84 => ?_) (fun c84 => ?_)
      · replace hf := (if_pos c84).symm.trans hf
        refine lv_aload_n hx hb dX8_cuts_35 rfl (lv_at hl 0 rfl) ?_
        obtain ⟨u85, q86, hf⟩ := ob hf
        refine cVv (As := []) X hw (ctX8_remembers l E b  q86) ⟨mw_902, mw_904, mw_40, mw_61, mw_905⟩ hd_X8_remembers ⟨Nat.le_of_ble_eq_true rfl, Nat.le_of_ble_eq_true rfl, rfl, rfl⟩ (kdk kk_197 (by decide)) (ce_X8 E _ _ _ _ kk_197) (show vwCl[8]? = some (RX8, TX8, 31) from rfl) rfl hl.1 rfl (Nat.le_of_ble_eq_true rfl) dX8_cuts_36 (fun H locs hw => ?_)
        refine lv_iconst (v := 0) hx hb dX8_cuts_39 (by decide) ?_
        refine lv_istore_n (lv' := [(3, .int 0), (0, .ref (b + 197)), (1, .int x1), (2, .int x2)]) hx hb dX8_cuts_40 rfl hl (by decide) rfl (fun ls hl => ?_)
        exact tX8_cuts_41 X hr hlk FU x1 x2 0 u85 hf H locs ls hw (lv_sub hl [1, 2, 3, 0] rfl)
      · replace hf := (if_neg c84).symm.trans hf
        refine lv_bipush (v := (-2)) hx hb dX8_cuts_32 (by decide) ?_
        replace hf := Option.some.inj hf
        subst hf
        exact eI X hw hr hlk dX8_cuts_34
    · replace hf := (if_pos c81).symm.trans hf
      refine lv_iconst (v := (-1)) hx hb dX8_cuts_18 (by decide) ?_
      replace hf := Option.some.inj hf
      subst hf
      exact eI X hw hr hlk dX8_cuts_19

abbrev rmX8_changes : Room := { frames := 2, cells := 0, slots := 0, locals := 42 }
theorem hd_X8_changes : Hd yX8_changes RX8 1 := by decide +kernel
def gX8_changes (x1 : Int32) (M : Mem) : Option (Int32 × Mem) := (gX8_isJar x1).bind fun u105 => if u105 = 0 then (some ((-1), M)) else ((ldA 1233 (M 201) 1).bind fun v108 => if v108 = x1 then (some ((-2), M)) else ((gX8_remembers M).bind fun u111 => (stA 1233 u111 201 1 x1).bind fun M113 => some (v108, M113)))
set_option maxHeartbeats 4000000 in
set_option maxRecDepth 100000 in
theorem ctX8_changes (l : Launch) (E : EE) (b : Nat) {MC : Mem} {TC : Int64} {TM : Int64} {x1 : Int32} {M : Mem} {res : Int32 × Mem}  (hf : gX8_changes x1 M = some res) : MetI l E b yX8_changes (.code yX8_changes cX8_changes 3 (some .int)) rmX8_changes [.ref (b + 197), .int x1] MC TC M TM res.1 MC TC res.2 TM := by
  refine Met.ofW (cc := cX8_changes) (maxL := 3) (ret := (some .int)) (by decide) rfl ?_
  intro p e s m args below meth c s₁ B hml hv
  obtain ⟨rfl, hP, hK⟩ := hv
  have hx := B.exec
  have hb := B.bytes
  have X : CX E p s m _ c cX8_changes 3 RX8 := ⟨hx, hb, hml, findClass_of_methodNamed B.named, fun w h => atoms_spec (ws := _ :: wt) B.pre w (List.mem_cons_of_mem _ h), hK⟩
  have hr := B.returns
  have hlk := B.notSynchronized
  have hw : WW E b MC TC M TM s s.heap [] := ⟨hP, va_S.rf⟩
  have hl := lv_entry ([.ref (b + 197), .int x1]) (n := 3) (Nat.le_of_ble_eq_true rfl)
  rw [lg_entry_eq]
  generalize (lg_sl ([.ref (b + 197), .int x1]) ++ List.replicate (3 - (lg_sl ([.ref (b + 197), .int x1])).length) Slot.unset).toArray = ls at hl ⊢
  have hl : lv_has ls 3 [(0, .ref (b + 197)), (1, .int x1)] := hl
  obtain ⟨H, hH⟩ : ∃ H, H = s.heap := ⟨_, rfl⟩
  obtain ⟨locs, hL⟩ : ∃ L : List Loc, L = [] := ⟨_, rfl⟩
  rw [← hH, ← hL] at hw
  suffices hg : W p l e rmX8_changes s m _ below meth c H locs 0 0 (MQ below (va_Qi (fun x (_ : Unit) => x = res.1) (fun _ t => PW E b MC TC res.2 TM t) (AA b)) _ s 0 0 (AA b)) (F0 m 0 ls []) by rw [hH, hL] at hg; exact hg
  clear hH hL
  rw [gX8_changes] at hf
  refine lv_iload_n hx hb dX8_changes_0 rfl (lv_at hl 1 rfl) ?_
  obtain ⟨u105, q106, hf⟩ := ob hf
  refine cSi (As := [.int x1]) X hw (ctX8_isJar l E b  q106) ⟨mw_892, mw_893, mw_61, mw_894⟩ hd_X8_isJar ⟨Nat.le_of_ble_eq_true rfl, Nat.le_of_ble_eq_true rfl, rfl, rfl⟩ rfl hl.1 rfl (Nat.le_of_ble_eq_true rfl) dX8_changes_1 (fun H locs hw => ?_)
  refine lv_if_ne (tgt := 9) hx hb dX8_changes_4 (by decide) (fun c107 => ?_) (fun c107 => ?_)
  · replace hf := (if_neg c107).symm.trans hf
    refine lv_aload_n hx hb dX8_changes_9 rfl (lv_at hl 0 rfl) ?_
    refine gt_X8 X hw 5 kk_197 rfl (by decide) mw_726 rfl dX8_changes_10 ?_
    refine lv_iconst (v := 1) hx hb dX8_changes_13 (by decide) ?_
    obtain ⟨v108, q109, hf⟩ := ob hf
    refine aldM X hw kdv_201 q109 dX8_changes_14 ?_
    refine lv_istore_n (lv' := [(2, .int v108), (0, .ref (b + 197)), (1, .int x1)]) hx hb dX8_changes_15 rfl hl (by decide) rfl (fun ls hl => ?_)
    refine lv_iload_n hx hb dX8_changes_16 rfl (lv_at hl 0 rfl) ?_
    refine lv_iload_n hx hb dX8_changes_17 rfl (lv_at hl 2 rfl) ?_
    refine lv_icmp_ne (tgt := 24) hx hb dX8_changes_18 (by decide) (fun c110 => ?_) (fun c110 => ?_)
    · replace hf := (if_neg c110).symm.trans hf
      refine lv_aload_n hx hb dX8_changes_24 rfl (lv_at hl 1 rfl) ?_
      obtain ⟨u111, q112, hf⟩ := ob hf
      refine cVv (As := []) X hw (ctX8_remembers l E b  q112) ⟨mw_902, mw_904, mw_40, mw_61, mw_905⟩ hd_X8_remembers ⟨Nat.le_of_ble_eq_true rfl, Nat.le_of_ble_eq_true rfl, rfl, rfl⟩ (kdk kk_197 (by decide)) (ce_X8 E _ _ _ _ kk_197) (show vwCl[8]? = some (RX8, TX8, 31) from rfl) rfl hl.1 rfl (Nat.le_of_ble_eq_true rfl) dX8_changes_25 (fun H locs hw => ?_)
      refine lv_aload_n hx hb dX8_changes_28 rfl (lv_at hl 1 rfl) ?_
      refine gt_X8 X hw 5 kk_197 rfl (by decide) mw_726 rfl dX8_changes_29 ?_
      refine lv_iconst (v := 1) hx hb dX8_changes_32 (by decide) ?_
      refine lv_iload_n hx hb dX8_changes_33 rfl (lv_at hl 2 rfl) ?_
      obtain ⟨M113, q114, hf⟩ := ob hf
      refine astM X hw kdv_201 q114 dX8_changes_34 (fun H locs hw => ?_)
      refine lv_iload_n hx hb dX8_changes_35 rfl (lv_at hl 0 rfl) ?_
      replace hf := Option.some.inj hf
      subst hf
      exact eI X hw hr hlk dX8_changes_36
    · replace hf := (if_pos c110).symm.trans hf
      refine lv_bipush (v := (-2)) hx hb dX8_changes_21 (by decide) ?_
      replace hf := Option.some.inj hf
      subst hf
      exact eI X hw hr hlk dX8_changes_23
  · replace hf := (if_pos c107).symm.trans hf
    refine lv_iconst (v := (-1)) hx hb dX8_changes_7 (by decide) ?_
    replace hf := Option.some.inj hf
    subst hf
    exact eI X hw hr hlk dX8_changes_8

abbrev rmX8_empties : Room := { frames := 2, cells := 0, slots := 0, locals := 42 }
theorem hd_X8_empties : Hd yX8_empties RX8 1 := by decide +kernel
def gX8_empties_28   : Nat → Int32 → Int32 → Int32 → Mem → Option (Int32 × Mem)
  | 0, _, _, _, _ => none
  | n + 1, x1, x2, x3, M => if 10 ≤ x3 then (some (x2, M)) else ((stA 1233 M 201 ((72 + (10 * x1)) + x3) 0).bind fun M124 => (some (x3 + 1)).bind fun z126 => (gX8_empties_28 n) x1 x2 z126 M124)
def gX8_empties (x1 : Int32) (M : Mem) : Option (Int32 × Mem) := (gX8_isJar x1).bind fun u115 => if u115 = 0 then (some ((-1), M)) else ((gX8_inJar x1 M).bind fun u118 => if u118 = 0 then (some ((-2), M)) else ((gX8_remembers M).bind fun u121 => gX8_empties_28 FU x1 u118 0 u121))
set_option maxHeartbeats 4000000 in
set_option maxRecDepth 100000 in
theorem tX8_empties_28 {p : Program} {l : Launch} {e : Env} {s : State} {m : MethodId} {args : Array Value} {below : List Frame} {meth : Method} {c : Code} {E : EE} {b : Nat} {MC : Mem} {TC : Int64} {TM : Int64} {res : Int32 × Mem} (X : CX E p s m args c cX8_empties 4 RX8) (hr : meth.sig.returnType = (some .int)) (hlk : meth.locks = false)    : ∀ (n : Nat) (x1 : Int32) (x2 : Int32) (x3 : Int32) (M : Mem), gX8_empties_28 n x1 x2 x3 M = some res → ∀ (H : Heap) (locs : List Loc) (ls : Array Slot), WW E b MC TC M TM s H locs → lv_has ls 4 [(0, .ref (b + 197)), (1, .int x1), (2, .int x2), (3, .int x3)] → W p l e rmX8_empties s m args below meth c H locs 0 0 (MQ below (va_Qi (fun x (_ : Unit) => x = res.1) (fun _ t => PW E b MC TC res.2 TM t) (AA b)) args s 0 0 (AA b)) (F0 m 28 ls []) := by
  have hx := X.1
  have hb := X.2.1
  intro n
  induction n with
  | zero =>
    intro x1 x2 x3 M hf
    cases (show (none : Option (Int32 × Mem)) = some res from hf)
  | succ n ih =>
    intro x1 x2 x3 M hf H locs ls hw hl
    rw [gX8_empties_28] at hf
    refine lv_iload_n hx hb dX8_empties_28 rfl (lv_at hl 3 rfl) ?_
    refine lv_bipush (v := 10) hx hb dX8_empties_29 (by decide) ?_
    refine lv_icmp_ge (tgt := 55) hx hb dX8_empties_31 (by decide) (fun c123 => ?_) (fun c123 => ?_)
    · replace hf := (if_pos c123).symm.trans hf
      refine lv_iload_n hx hb dX8_empties_55 rfl (lv_at hl 2 rfl) ?_
      replace hf := Option.some.inj hf
      subst hf
      exact eI X hw hr hlk dX8_empties_56
    · replace hf := (if_neg c123).symm.trans hf
      refine lv_aload_n hx hb dX8_empties_34 rfl (lv_at hl 0 rfl) ?_
      refine gt_X8 X hw 5 kk_197 rfl (by decide) mw_726 rfl dX8_empties_35 ?_
      refine lv_bipush (v := 72) hx hb dX8_empties_38 (by decide) ?_
      refine lv_bipush (v := 10) hx hb dX8_empties_40 (by decide) ?_
      refine lv_iload_n hx hb dX8_empties_42 rfl (lv_at hl 1 rfl) ?_
      refine lv_imul hx hb dX8_empties_43 ?_
      refine lv_iadd hx hb dX8_empties_44 ?_
      refine lv_iload_n hx hb dX8_empties_45 rfl (lv_at hl 3 rfl) ?_
      refine lv_iadd hx hb dX8_empties_46 ?_
      refine lv_iconst (v := 0) hx hb dX8_empties_47 (by decide) ?_
      obtain ⟨M124, q125, hf⟩ := ob hf
      refine astM X hw kdv_201 q125 dX8_empties_48 (fun H locs hw => ?_)
      obtain ⟨z126, ez126⟩ : ∃ y : Int32, y = x3 + 1 := ⟨_, rfl⟩
      replace hf := nmb hf ez126
      refine lv_iinc (v := z126) (lv' := [(3, .int z126), (0, .ref (b + 197)), (1, .int x1), (2, .int x2)]) hx hb dX8_empties_49 hl (k := 3) rfl (by rw [ez126]; rfl) (by decide) rfl (fun ls hl => ?_)
      refine lv_goto (tgt := 28) hx hb dX8_empties_52 (by decide) ?_
      exact ih x1 x2 z126 M124 hf H locs ls hw (lv_sub hl [1, 2, 3, 0] rfl)
set_option maxHeartbeats 4000000 in
set_option maxRecDepth 100000 in
theorem ctX8_empties (l : Launch) (E : EE) (b : Nat) {MC : Mem} {TC : Int64} {TM : Int64} {x1 : Int32} {M : Mem} {res : Int32 × Mem}  (hf : gX8_empties x1 M = some res) : MetI l E b yX8_empties (.code yX8_empties cX8_empties 4 (some .int)) rmX8_empties [.ref (b + 197), .int x1] MC TC M TM res.1 MC TC res.2 TM := by
  refine Met.ofW (cc := cX8_empties) (maxL := 4) (ret := (some .int)) (by decide) rfl ?_
  intro p e s m args below meth c s₁ B hml hv
  obtain ⟨rfl, hP, hK⟩ := hv
  have hx := B.exec
  have hb := B.bytes
  have X : CX E p s m _ c cX8_empties 4 RX8 := ⟨hx, hb, hml, findClass_of_methodNamed B.named, fun w h => atoms_spec (ws := _ :: wt) B.pre w (List.mem_cons_of_mem _ h), hK⟩
  have hr := B.returns
  have hlk := B.notSynchronized
  have hw : WW E b MC TC M TM s s.heap [] := ⟨hP, va_S.rf⟩
  have hl := lv_entry ([.ref (b + 197), .int x1]) (n := 4) (Nat.le_of_ble_eq_true rfl)
  rw [lg_entry_eq]
  generalize (lg_sl ([.ref (b + 197), .int x1]) ++ List.replicate (4 - (lg_sl ([.ref (b + 197), .int x1])).length) Slot.unset).toArray = ls at hl ⊢
  have hl : lv_has ls 4 [(0, .ref (b + 197)), (1, .int x1)] := hl
  obtain ⟨H, hH⟩ : ∃ H, H = s.heap := ⟨_, rfl⟩
  obtain ⟨locs, hL⟩ : ∃ L : List Loc, L = [] := ⟨_, rfl⟩
  rw [← hH, ← hL] at hw
  suffices hg : W p l e rmX8_empties s m _ below meth c H locs 0 0 (MQ below (va_Qi (fun x (_ : Unit) => x = res.1) (fun _ t => PW E b MC TC res.2 TM t) (AA b)) _ s 0 0 (AA b)) (F0 m 0 ls []) by rw [hH, hL] at hg; exact hg
  clear hH hL
  rw [gX8_empties] at hf
  refine lv_iload_n hx hb dX8_empties_0 rfl (lv_at hl 1 rfl) ?_
  obtain ⟨u115, q116, hf⟩ := ob hf
  refine cSi (As := [.int x1]) X hw (ctX8_isJar l E b  q116) ⟨mw_892, mw_893, mw_61, mw_894⟩ hd_X8_isJar ⟨Nat.le_of_ble_eq_true rfl, Nat.le_of_ble_eq_true rfl, rfl, rfl⟩ rfl hl.1 rfl (Nat.le_of_ble_eq_true rfl) dX8_empties_1 (fun H locs hw => ?_)
  refine lv_if_ne (tgt := 9) hx hb dX8_empties_4 (by decide) (fun c117 => ?_) (fun c117 => ?_)
  · replace hf := (if_neg c117).symm.trans hf
    refine lv_aload_n hx hb dX8_empties_9 rfl (lv_at hl 0 rfl) ?_
    refine lv_iload_n hx hb dX8_empties_10 rfl (lv_at hl 1 rfl) ?_
    obtain ⟨u118, q119, hf⟩ := ob hf
    refine cVi (As := [.int x1]) X hw (ctX8_inJar l E b  q119) ⟨mw_934, mw_936, mw_44, mw_61, mw_937⟩ hd_X8_inJar ⟨Nat.le_of_ble_eq_true rfl, Nat.le_of_ble_eq_true rfl, rfl, rfl⟩ (kdk kk_197 (by decide)) (ce_X8 E _ _ _ _ kk_197) (show vwCl[8]? = some (RX8, TX8, 31) from rfl) rfl hl.1 rfl (Nat.le_of_ble_eq_true rfl) dX8_empties_11 (fun H locs hw => ?_)
    refine lv_istore_n (lv' := [(2, .int u118), (0, .ref (b + 197)), (1, .int x1)]) hx hb dX8_empties_14 rfl hl (by decide) rfl (fun ls hl => ?_)
    refine lv_iload_n hx hb dX8_empties_15 rfl (lv_at hl 0 rfl) ?_
    refine lv_if_ne (tgt := 22) hx hb dX8_empties_16 (by decide) (fun c120 => ?_) (fun c120 => ?_)
    · replace hf := (if_neg c120).symm.trans hf
      refine lv_aload_n hx hb dX8_empties_22 rfl (lv_at hl 1 rfl) ?_
      obtain ⟨u121, q122, hf⟩ := ob hf
      refine cVv (As := []) X hw (ctX8_remembers l E b  q122) ⟨mw_902, mw_904, mw_40, mw_61, mw_905⟩ hd_X8_remembers ⟨Nat.le_of_ble_eq_true rfl, Nat.le_of_ble_eq_true rfl, rfl, rfl⟩ (kdk kk_197 (by decide)) (ce_X8 E _ _ _ _ kk_197) (show vwCl[8]? = some (RX8, TX8, 31) from rfl) rfl hl.1 rfl (Nat.le_of_ble_eq_true rfl) dX8_empties_23 (fun H locs hw => ?_)
      refine lv_iconst (v := 0) hx hb dX8_empties_26 (by decide) ?_
      refine lv_istore_n (lv' := [(3, .int 0), (2, .int u118), (0, .ref (b + 197)), (1, .int x1)]) hx hb dX8_empties_27 rfl hl (by decide) rfl (fun ls hl => ?_)
      exact tX8_empties_28 X hr hlk FU x1 u118 0 u121 hf H locs ls hw (lv_sub hl [2, 3, 1, 0] rfl)
    · replace hf := (if_pos c120).symm.trans hf
      refine lv_bipush (v := (-2)) hx hb dX8_empties_19 (by decide) ?_
      replace hf := Option.some.inj hf
      subst hf
      exact eI X hw hr hlk dX8_empties_21
  · replace hf := (if_pos c117).symm.trans hf
    refine lv_iconst (v := (-1)) hx hb dX8_empties_7 (by decide) ?_
    replace hf := Option.some.inj hf
    subst hf
    exact eI X hw hr hlk dX8_empties_8

abbrev rmX8_undo : Room := { frames := 0, cells := 0, slots := 0, locals := 0 }
theorem hd_X8_undo : Hd yX8_undo RX8 0 := by decide +kernel
def gX8_undo_40   : Nat → Int32 → Int32 → Mem → Option (Int32 × Mem)
  | 0, _, _, _ => none
  | n + 1, x1, x2, M => if 112 ≤ x2 then ((ldA 1233 (M 201) 112).bind fun v138 => some (v138, M)) else ((ldA 1233 (M 201) (x1 + x2)).bind fun v140 => (stA 1233 M 201 x2 v140).bind fun M142 => (some (x2 + 1)).bind fun z144 => (gX8_undo_40 n) x1 z144 M142)
def gX8_undo (M : Mem) : Option (Int32 × Mem) := (ldA 1233 (M 201) 112).bind fun v127 => if v127 = 0 then (some ((-2), M)) else ((ldA 1233 (M 201) 112).bind fun v130 => (stA 1233 M 201 112 (v130 - 1)).bind fun M132 => (ldA 1233 (M132 201) 112).bind fun v134 => (some (113 + (112 * v134))).bind fun z136 => gX8_undo_40 FU z136 0 M132)
set_option maxHeartbeats 4000000 in
set_option maxRecDepth 100000 in
theorem tX8_undo_40 {p : Program} {l : Launch} {e : Env} {s : State} {m : MethodId} {args : Array Value} {below : List Frame} {meth : Method} {c : Code} {E : EE} {b : Nat} {MC : Mem} {TC : Int64} {TM : Int64} {res : Int32 × Mem} (X : CX E p s m args c cX8_undo 3 RX8) (hr : meth.sig.returnType = (some .int)) (hlk : meth.locks = false)    : ∀ (n : Nat) (x1 : Int32) (x2 : Int32) (M : Mem), gX8_undo_40 n x1 x2 M = some res → ∀ (H : Heap) (locs : List Loc) (ls : Array Slot), WW E b MC TC M TM s H locs → lv_has ls 3 [(0, .ref (b + 197)), (1, .int x1), (2, .int x2)] → W p l e rmX8_undo s m args below meth c H locs 0 0 (MQ below (va_Qi (fun x (_ : Unit) => x = res.1) (fun _ t => PW E b MC TC res.2 TM t) (AA b)) args s 0 0 (AA b)) (F0 m 40 ls []) := by
  have hx := X.1
  have hb := X.2.1
  intro n
  induction n with
  | zero =>
    intro x1 x2 M hf
    cases (show (none : Option (Int32 × Mem)) = some res from hf)
  | succ n ih =>
    intro x1 x2 M hf H locs ls hw hl
    rw [gX8_undo_40] at hf
    refine lv_iload_n hx hb dX8_undo_40 rfl (lv_at hl 2 rfl) ?_
    refine lv_bipush (v := 112) hx hb dX8_undo_41 (by decide) ?_
    refine lv_icmp_ge (tgt := 66) hx hb dX8_undo_43 (by decide) (fun c137 => ?_) (fun c137 => ?_)
    · replace hf := (if_pos c137).symm.trans hf
      refine lv_aload_n hx hb dX8_undo_66 rfl (lv_at hl 0 rfl) ?_
      refine gt_X8 X hw 5 kk_197 rfl (by decide) mw_726 rfl dX8_undo_67 ?_
      refine lv_bipush (v := 112) hx hb dX8_undo_70 (by decide) ?_
      obtain ⟨v138, q139, hf⟩ := ob hf
      refine aldM X hw kdv_201 q139 dX8_undo_72 ?_
      replace hf := Option.some.inj hf
      subst hf
      exact eI X hw hr hlk dX8_undo_73
    · replace hf := (if_neg c137).symm.trans hf
      refine lv_aload_n hx hb dX8_undo_46 rfl (lv_at hl 0 rfl) ?_
      refine gt_X8 X hw 5 kk_197 rfl (by decide) mw_726 rfl dX8_undo_47 ?_
      refine lv_iload_n hx hb dX8_undo_50 rfl (lv_at hl 2 rfl) ?_
      refine lv_aload_n hx hb dX8_undo_51 rfl (lv_at hl 0 rfl) ?_
      refine gt_X8 X hw 5 kk_197 rfl (by decide) mw_726 rfl dX8_undo_52 ?_
      refine lv_iload_n hx hb dX8_undo_55 rfl (lv_at hl 1 rfl) ?_
      refine lv_iload_n hx hb dX8_undo_56 rfl (lv_at hl 2 rfl) ?_
      refine lv_iadd hx hb dX8_undo_57 ?_
      obtain ⟨v140, q141, hf⟩ := ob hf
      refine aldM X hw kdv_201 q141 dX8_undo_58 ?_
      obtain ⟨M142, q143, hf⟩ := ob hf
      refine astM X hw kdv_201 q143 dX8_undo_59 (fun H locs hw => ?_)
      obtain ⟨z144, ez144⟩ : ∃ y : Int32, y = x2 + 1 := ⟨_, rfl⟩
      replace hf := nmb hf ez144
      refine lv_iinc (v := z144) (lv' := [(2, .int z144), (0, .ref (b + 197)), (1, .int x1)]) hx hb dX8_undo_60 hl (k := 2) rfl (by rw [ez144]; rfl) (by decide) rfl (fun ls hl => ?_)
      refine lv_goto (tgt := 40) hx hb dX8_undo_63 (by decide) ?_
      exact ih x1 z144 M142 hf H locs ls hw (lv_sub hl [1, 2, 0] rfl)
set_option maxHeartbeats 4000000 in
set_option maxRecDepth 100000 in
theorem ctX8_undo (l : Launch) (E : EE) (b : Nat) {MC : Mem} {TC : Int64} {TM : Int64} {M : Mem} {res : Int32 × Mem}  (hf : gX8_undo M = some res) : MetI l E b yX8_undo (.code yX8_undo cX8_undo 3 (some .int)) rmX8_undo [.ref (b + 197)] MC TC M TM res.1 MC TC res.2 TM := by
  refine Met.ofW (cc := cX8_undo) (maxL := 3) (ret := (some .int)) (by decide) rfl ?_
  intro p e s m args below meth c s₁ B hml hv
  obtain ⟨rfl, hP, hK⟩ := hv
  have hx := B.exec
  have hb := B.bytes
  have X : CX E p s m _ c cX8_undo 3 RX8 := ⟨hx, hb, hml, findClass_of_methodNamed B.named, fun w h => atoms_spec (ws := _ :: wt) B.pre w (List.mem_cons_of_mem _ h), hK⟩
  have hr := B.returns
  have hlk := B.notSynchronized
  have hw : WW E b MC TC M TM s s.heap [] := ⟨hP, va_S.rf⟩
  have hl := lv_entry ([.ref (b + 197)]) (n := 3) (Nat.le_of_ble_eq_true rfl)
  rw [lg_entry_eq]
  generalize (lg_sl ([.ref (b + 197)]) ++ List.replicate (3 - (lg_sl ([.ref (b + 197)])).length) Slot.unset).toArray = ls at hl ⊢
  have hl : lv_has ls 3 [(0, .ref (b + 197))] := hl
  obtain ⟨H, hH⟩ : ∃ H, H = s.heap := ⟨_, rfl⟩
  obtain ⟨locs, hL⟩ : ∃ L : List Loc, L = [] := ⟨_, rfl⟩
  rw [← hH, ← hL] at hw
  suffices hg : W p l e rmX8_undo s m _ below meth c H locs 0 0 (MQ below (va_Qi (fun x (_ : Unit) => x = res.1) (fun _ t => PW E b MC TC res.2 TM t) (AA b)) _ s 0 0 (AA b)) (F0 m 0 ls []) by rw [hH, hL] at hg; exact hg
  clear hH hL
  rw [gX8_undo] at hf
  refine lv_aload_n hx hb dX8_undo_0 rfl (lv_at hl 0 rfl) ?_
  refine gt_X8 X hw 5 kk_197 rfl (by decide) mw_726 rfl dX8_undo_1 ?_
  refine lv_bipush (v := 112) hx hb dX8_undo_4 (by decide) ?_
  obtain ⟨v127, q128, hf⟩ := ob hf
  refine aldM X hw kdv_201 q128 dX8_undo_6 ?_
  refine lv_if_ne (tgt := 13) hx hb dX8_undo_7 (by decide) (fun c129 => ?_) (fun c129 => ?_)
  · replace hf := (if_neg c129).symm.trans hf
    refine lv_aload_n hx hb dX8_undo_13 rfl (lv_at hl 0 rfl) ?_
    refine gt_X8 X hw 5 kk_197 rfl (by decide) mw_726 rfl dX8_undo_14 ?_
    refine lv_bipush (v := 112) hx hb dX8_undo_17 (by decide) ?_
    refine lv_dup2_11 hx hb dX8_undo_19 rfl rfl ?_
    obtain ⟨v130, q131, hf⟩ := ob hf
    refine aldM X hw kdv_201 q131 dX8_undo_20 ?_
    refine lv_iconst (v := 1) hx hb dX8_undo_21 (by decide) ?_
    refine lv_isub hx hb dX8_undo_22 ?_
    obtain ⟨M132, q133, hf⟩ := ob hf
    refine astM X hw kdv_201 q133 dX8_undo_23 (fun H locs hw => ?_)
    refine lv_bipush (v := 113) hx hb dX8_undo_24 (by decide) ?_
    refine lv_bipush (v := 112) hx hb dX8_undo_26 (by decide) ?_
    refine lv_aload_n hx hb dX8_undo_28 rfl (lv_at hl 0 rfl) ?_
    refine gt_X8 X hw 5 kk_197 rfl (by decide) mw_726 rfl dX8_undo_29 ?_
    refine lv_bipush (v := 112) hx hb dX8_undo_32 (by decide) ?_
    obtain ⟨v134, q135, hf⟩ := ob hf
    refine aldM X hw kdv_201 q135 dX8_undo_34 ?_
    refine lv_imul hx hb dX8_undo_35 ?_
    refine lv_iadd hx hb dX8_undo_36 ?_
    refine lv_topi (fun z136 ez136 => ?_)
    replace hf := nmb hf ez136
    refine lv_istore_n (lv' := [(1, .int z136), (0, .ref (b + 197))]) hx hb dX8_undo_37 rfl hl (by decide) rfl (fun ls hl => ?_)
    refine lv_iconst (v := 0) hx hb dX8_undo_38 (by decide) ?_
    refine lv_istore_n (lv' := [(2, .int 0), (1, .int z136), (0, .ref (b + 197))]) hx hb dX8_undo_39 rfl hl (by decide) rfl (fun ls hl => ?_)
    exact tX8_undo_40 X hr hlk FU z136 0 M132 hf H locs ls hw (lv_sub hl [2, 1, 0] rfl)
  · replace hf := (if_pos c129).symm.trans hf
    refine lv_bipush (v := (-2)) hx hb dX8_undo_10 (by decide) ?_
    replace hf := Option.some.inj hf
    subst hf
    exact eI X hw hr hlk dX8_undo_12
