abbrev rmX1_thoughtsIn : Room := { frames := 1, cells := 0, slots := 0, locals := 22 }
theorem hd_X1_thoughtsIn : Hd yX1_thoughtsIn RX1 1 := by decide +kernel
def gX1_thoughtsIn_4 (o0 : Nat)  : Nat → Int32 → Int32 → Int32 → Mem → Option (Int32)
  | 0, _, _, _, _ => none
  | n + 1, x1, x2, x3, M => (ldA 5 (M (o0 + 1)) x1).bind fun v1 => if v1 ≤ x3 then (some (x2)) else ((gX1_layerAt o0 x1 x3 M).bind fun u4 => (some (x2 ||| (1 <<< (u4 &&& 31)))).bind fun z6 => (some (x3 + 1)).bind fun z7 => (gX1_thoughtsIn_4 o0 n) x1 z6 z7 M)
def gX1_thoughtsIn (o0 : Nat) (x1 : Int32) (M : Mem) : Option (Int32) := gX1_thoughtsIn_4 o0 FU x1 0 0 M
set_option maxHeartbeats 4000000 in
set_option maxRecDepth 100000 in
theorem tX1_thoughtsIn_4 {p : Program} {l : Launch} {e : Env} {s : State} {m : MethodId} {args : Array Value} {below : List Frame} {meth : Method} {c : Code} {E : EE} {b : Nat} {TC : Int64} {MM : Mem} {TM : Int64} {res : Int32} (X : CX E p s m args c cX1_thoughtsIn 4 RX1) (hr : meth.sig.returnType = (some .int)) (hlk : meth.locks = false) {o0 : Nat} (h0 : (kd o0).1 = 3)  : ∀ (n : Nat) (x1 : Int32) (x2 : Int32) (x3 : Int32) (M : Mem), gX1_thoughtsIn_4 o0 n x1 x2 x3 M = some res → ∀ (H : Heap) (locs : List Loc) (ls : Array Slot), WW E b M TC MM TM s H locs → lv_has ls 4 [(0, .ref (b + o0)), (1, .int x1), (2, .int x2), (3, .int x3)] → W p l e rmX1_thoughtsIn s m args below meth c H locs 0 0 (MQ below (va_Qi (fun x (_ : Unit) => x = res) (fun _ t => PW E b M TC MM TM t) (AA b)) args s 0 0 (AA b)) (F0 m 4 ls []) := by
  have hx := X.1
  have hb := X.2.1
  intro n
  induction n with
  | zero =>
    intro x1 x2 x3 M hf
    cases (show (none : Option (Int32)) = some res from hf)
  | succ n ih =>
    intro x1 x2 x3 M hf H locs ls hw hl
    rw [gX1_thoughtsIn_4] at hf
    refine lv_iload_n hx hb dX1_thoughtsIn_4 rfl (lv_at hl 3 rfl) ?_
    refine lv_aload_n hx hb dX1_thoughtsIn_5 rfl (lv_at hl 0 rfl) ?_
    refine gt_X1 X hw 0 h0 rfl (by decide) mw_178 rfl dX1_thoughtsIn_6 ?_
    refine lv_iload_n hx hb dX1_thoughtsIn_9 rfl (lv_at hl 1 rfl) ?_
    obtain ⟨v1, q2, hf⟩ := ob hf
    refine aldC X hw (kr_X1_0 h0) q2 dX1_thoughtsIn_10 ?_
    refine lv_icmp_ge (tgt := 31) hx hb dX1_thoughtsIn_11 (by decide) (fun c3 => ?_) (fun c3 => ?_)
    · replace hf := (if_pos c3).symm.trans hf
      refine lv_iload_n hx hb dX1_thoughtsIn_31 rfl (lv_at hl 2 rfl) ?_
      replace hf := Option.some.inj hf
      subst hf
      exact eI X hw hr hlk dX1_thoughtsIn_32
    · replace hf := (if_neg c3).symm.trans hf
      refine lv_iload_n hx hb dX1_thoughtsIn_14 rfl (lv_at hl 2 rfl) ?_
      refine lv_iconst (v := 1) hx hb dX1_thoughtsIn_15 (by decide) ?_
      refine lv_aload_n hx hb dX1_thoughtsIn_16 rfl (lv_at hl 0 rfl) ?_
      refine lv_iload_n hx hb dX1_thoughtsIn_17 rfl (lv_at hl 1 rfl) ?_
      refine lv_iload_n hx hb dX1_thoughtsIn_18 rfl (lv_at hl 3 rfl) ?_
      obtain ⟨u4, q5, hf⟩ := ob hf
      refine cVi (As := [.int x1, .int x3]) X hw (ctX1_layerAt l E b h0 q5) ⟨mw_412, mw_413, mw_414, mw_57, mw_415⟩ hd_X1_layerAt ⟨Nat.le_of_ble_eq_true rfl, Nat.le_of_ble_eq_true rfl, rfl, rfl⟩ (kdk h0 (by decide)) (ce_X1 E _ _ _ _ h0) (show vwCl[1]? = some (RX1, TX1, 6) from rfl) rfl hl.1 rfl (Nat.le_of_ble_eq_true rfl) dX1_thoughtsIn_19 (fun H locs hw => ?_)
      refine lv_ishl hx hb dX1_thoughtsIn_22 ?_
      refine lv_ior hx hb dX1_thoughtsIn_23 ?_
      refine lv_topi (fun z6 ez6 => ?_)
      replace hf := nmb hf ez6
      refine lv_istore_n (lv' := [(2, .int z6), (0, .ref (b + o0)), (1, .int x1), (3, .int x3)]) hx hb dX1_thoughtsIn_24 rfl hl (by decide) rfl (fun ls hl => ?_)
      obtain ⟨z7, ez7⟩ : ∃ y : Int32, y = x3 + 1 := ⟨_, rfl⟩
      replace hf := nmb hf ez7
      refine lv_iinc (v := z7) (lv' := [(3, .int z7), (2, .int z6), (0, .ref (b + o0)), (1, .int x1)]) hx hb dX1_thoughtsIn_25 hl (k := 3) rfl (by rw [ez7]; rfl) (by decide) rfl (fun ls hl => ?_)
      refine lv_goto (tgt := 4) hx hb dX1_thoughtsIn_28 (by decide) ?_
      exact ih x1 z6 z7 M hf H locs ls hw (lv_sub hl [2, 3, 1, 0] rfl)
set_option maxHeartbeats 4000000 in
set_option maxRecDepth 100000 in
theorem ctX1_thoughtsIn (l : Launch) (E : EE) (b : Nat) {TC : Int64} {MM : Mem} {TM : Int64} {o0 : Nat} {x1 : Int32} {M : Mem} {res : Int32} (h0 : (kd o0).1 = 3) (hf : gX1_thoughtsIn o0 x1 M = some res) : MetI l E b yX1_thoughtsIn (.code yX1_thoughtsIn cX1_thoughtsIn 4 (some .int)) rmX1_thoughtsIn [.ref (b + o0), .int x1] M TC MM TM res M TC MM TM := by
  refine Met.ofW (cc := cX1_thoughtsIn) (maxL := 4) (ret := (some .int)) (by decide) rfl ?_
  intro p e s m args below meth c s₁ B hml hv
  obtain ⟨rfl, hP, hK⟩ := hv
  have hx := B.exec
  have hb := B.bytes
  have X : CX E p s m _ c cX1_thoughtsIn 4 RX1 := ⟨hx, hb, hml, findClass_of_methodNamed B.named, fun w h => atoms_spec (ws := _ :: wt) B.pre w (List.mem_cons_of_mem _ h), hK⟩
  have hr := B.returns
  have hlk := B.notSynchronized
  have hw : WW E b M TC MM TM s s.heap [] := ⟨hP, va_S.rf⟩
  have hl := lv_entry ([.ref (b + o0), .int x1]) (n := 4) (Nat.le_of_ble_eq_true rfl)
  rw [lg_entry_eq]
  generalize (lg_sl ([.ref (b + o0), .int x1]) ++ List.replicate (4 - (lg_sl ([.ref (b + o0), .int x1])).length) Slot.unset).toArray = ls at hl ⊢
  have hl : lv_has ls 4 [(0, .ref (b + o0)), (1, .int x1)] := hl
  obtain ⟨H, hH⟩ : ∃ H, H = s.heap := ⟨_, rfl⟩
  obtain ⟨locs, hL⟩ : ∃ L : List Loc, L = [] := ⟨_, rfl⟩
  rw [← hH, ← hL] at hw
  suffices hg : W p l e rmX1_thoughtsIn s m _ below meth c H locs 0 0 (MQ below (va_Qi (fun x (_ : Unit) => x = res) (fun _ t => PW E b M TC MM TM t) (AA b)) _ s 0 0 (AA b)) (F0 m 0 ls []) by rw [hH, hL] at hg; exact hg
  clear hH hL
  rw [gX1_thoughtsIn] at hf
  refine lv_iconst (v := 0) hx hb dX1_thoughtsIn_0 (by decide) ?_
  refine lv_istore_n (lv' := [(2, .int 0), (0, .ref (b + o0)), (1, .int x1)]) hx hb dX1_thoughtsIn_1 rfl hl (by decide) rfl (fun ls hl => ?_)
  refine lv_iconst (v := 0) hx hb dX1_thoughtsIn_2 (by decide) ?_
  refine lv_istore_n (lv' := [(3, .int 0), (2, .int 0), (0, .ref (b + o0)), (1, .int x1)]) hx hb dX1_thoughtsIn_3 rfl hl (by decide) rfl (fun ls hl => ?_)
  exact tX1_thoughtsIn_4 X hr hlk h0 FU x1 0 0 M hf H locs ls hw (lv_sub hl [2, 3, 1, 0] rfl)

abbrev rmX1_rootOf : Room := { frames := 1, cells := 0, slots := 0, locals := 22 }
theorem hd_X1_rootOf : Hd yX1_rootOf RX1 1 := by decide +kernel
def gX1_rootOf_26 (o0 : Nat)  (y0 : Int32) (M : Mem) : Option (Int32) := some (y0)
def gX1_rootOf (o0 : Nat) (x1 : Int32) (M : Mem) : Option (Int32) := (ldA 5 (M (o0 + 1)) x1).bind fun v8 => if v8 ≤ 0 then (gX1_rootOf_26 o0 ((-1)) M) else ((ldA 5 (M (o0 + 1)) x1).bind fun v11 => (gX1_layerAt o0 x1 (v11 - 1) M).bind fun u13 => gX1_rootOf_26 o0 u13 M)
set_option maxHeartbeats 4000000 in
set_option maxRecDepth 100000 in
theorem tX1_rootOf_26 {p : Program} {l : Launch} {e : Env} {s : State} {m : MethodId} {args : Array Value} {below : List Frame} {meth : Method} {c : Code} {E : EE} {b : Nat} {TC : Int64} {MM : Mem} {TM : Int64} {res : Int32} (X : CX E p s m args c cX1_rootOf 2 RX1) (hr : meth.sig.returnType = (some .int)) (hlk : meth.locks = false) {o0 : Nat} (h0 : (kd o0).1 = 3)  : ∀ (y0 : Int32) (M : Mem), gX1_rootOf_26 o0 y0 M = some res → ∀ (H : Heap) (locs : List Loc) (ls : Array Slot), WW E b M TC MM TM s H locs → lv_has ls 2 [] → W p l e rmX1_rootOf s m args below meth c H locs 0 0 (MQ below (va_Qi (fun x (_ : Unit) => x = res) (fun _ t => PW E b M TC MM TM t) (AA b)) args s 0 0 (AA b)) (F0 m 26 ls [.int y0]) := by
  have hx := X.1
  have hb := X.2.1
  intro y0 M hf H locs ls hw hl
  rw [gX1_rootOf_26] at hf
  replace hf := Option.some.inj hf
  subst hf
  exact eI X hw hr hlk dX1_rootOf_26
set_option maxHeartbeats 4000000 in
set_option maxRecDepth 100000 in
theorem ctX1_rootOf (l : Launch) (E : EE) (b : Nat) {TC : Int64} {MM : Mem} {TM : Int64} {o0 : Nat} {x1 : Int32} {M : Mem} {res : Int32} (h0 : (kd o0).1 = 3) (hf : gX1_rootOf o0 x1 M = some res) : MetI l E b yX1_rootOf (.code yX1_rootOf cX1_rootOf 2 (some .int)) rmX1_rootOf [.ref (b + o0), .int x1] M TC MM TM res M TC MM TM := by
  refine Met.ofW (cc := cX1_rootOf) (maxL := 2) (ret := (some .int)) (by decide) rfl ?_
  intro p e s m args below meth c s₁ B hml hv
  obtain ⟨rfl, hP, hK⟩ := hv
  have hx := B.exec
  have hb := B.bytes
  have X : CX E p s m _ c cX1_rootOf 2 RX1 := ⟨hx, hb, hml, findClass_of_methodNamed B.named, fun w h => atoms_spec (ws := _ :: wt) B.pre w (List.mem_cons_of_mem _ h), hK⟩
  have hr := B.returns
  have hlk := B.notSynchronized
  have hw : WW E b M TC MM TM s s.heap [] := ⟨hP, va_S.rf⟩
  have hl := lv_entry ([.ref (b + o0), .int x1]) (n := 2) (Nat.le_of_ble_eq_true rfl)
  rw [lg_entry_eq]
  generalize (lg_sl ([.ref (b + o0), .int x1]) ++ List.replicate (2 - (lg_sl ([.ref (b + o0), .int x1])).length) Slot.unset).toArray = ls at hl ⊢
  have hl : lv_has ls 2 [(0, .ref (b + o0)), (1, .int x1)] := hl
  obtain ⟨H, hH⟩ : ∃ H, H = s.heap := ⟨_, rfl⟩
  obtain ⟨locs, hL⟩ : ∃ L : List Loc, L = [] := ⟨_, rfl⟩
  rw [← hH, ← hL] at hw
  suffices hg : W p l e rmX1_rootOf s m _ below meth c H locs 0 0 (MQ below (va_Qi (fun x (_ : Unit) => x = res) (fun _ t => PW E b M TC MM TM t) (AA b)) _ s 0 0 (AA b)) (F0 m 0 ls []) by rw [hH, hL] at hg; exact hg
  clear hH hL
  rw [gX1_rootOf] at hf
  refine lv_aload_n hx hb dX1_rootOf_0 rfl (lv_at hl 0 rfl) ?_
  refine gt_X1 X hw 0 h0 rfl (by decide) mw_178 rfl dX1_rootOf_1 ?_
  refine lv_iload_n hx hb dX1_rootOf_4 rfl (lv_at hl 1 rfl) ?_
  obtain ⟨v8, q9, hf⟩ := ob hf
  refine aldC X hw (kr_X1_0 h0) q9 dX1_rootOf_5 ?_
  refine lv_if_le (tgt := 25) hx hb dX1_rootOf_6 (by decide) (fun c10 => ?_) (fun c10 => ?_)
  · replace hf := (if_pos c10).symm.trans hf
    refine lv_iconst (v := (-1)) hx hb dX1_rootOf_25 (by decide) ?_
    exact tX1_rootOf_26 X hr hlk h0 ((-1)) M hf H locs ls hw (lv_sub hl [] rfl)
  · replace hf := (if_neg c10).symm.trans hf
    refine lv_aload_n hx hb dX1_rootOf_9 rfl (lv_at hl 0 rfl) ?_
    refine lv_iload_n hx hb dX1_rootOf_10 rfl (lv_at hl 1 rfl) ?_
    refine lv_aload_n hx hb dX1_rootOf_11 rfl (lv_at hl 0 rfl) ?_
    refine gt_X1 X hw 0 h0 rfl (by decide) mw_178 rfl dX1_rootOf_12 ?_
    refine lv_iload_n hx hb dX1_rootOf_15 rfl (lv_at hl 1 rfl) ?_
    obtain ⟨v11, q12, hf⟩ := ob hf
    refine aldC X hw (kr_X1_0 h0) q12 dX1_rootOf_16 ?_
    refine lv_iconst (v := 1) hx hb dX1_rootOf_17 (by decide) ?_
    refine lv_isub hx hb dX1_rootOf_18 ?_
    obtain ⟨u13, q14, hf⟩ := ob hf
    refine cVi (As := [.int x1, .int (v11 - 1)]) X hw (ctX1_layerAt l E b h0 q14) ⟨mw_412, mw_413, mw_414, mw_57, mw_415⟩ hd_X1_layerAt ⟨Nat.le_of_ble_eq_true rfl, Nat.le_of_ble_eq_true rfl, rfl, rfl⟩ (kdk h0 (by decide)) (ce_X1 E _ _ _ _ h0) (show vwCl[1]? = some (RX1, TX1, 6) from rfl) rfl hl.1 rfl (Nat.le_of_ble_eq_true rfl) dX1_rootOf_19 (fun H locs hw => ?_)
    refine lv_goto (tgt := 26) hx hb dX1_rootOf_22 (by decide) ?_
    exact tX1_rootOf_26 X hr hlk h0 u13 M hf H locs ls hw (lv_sub hl [] rfl)

abbrev rmX1_sweptInto : Room := { frames := 1, cells := 0, slots := 0, locals := 22 }
theorem hd_X1_sweptInto : Hd yX1_sweptInto RX1 1 := by decide +kernel
def gX1_sweptInto_4 (o0 : Nat)  : Nat → Int32 → Int32 → Int32 → Mem → Option (Int32)
  | 0, _, _, _, _ => none
  | n + 1, x1, x2, x3, M => if 10 ≤ x3 then (some (x2)) else ((gX1_sweptOf o0 x1 x3 M).bind fun u16 => (some (x2 + u16)).bind fun z18 => (some (x3 + 1)).bind fun z19 => (gX1_sweptInto_4 o0 n) x1 z18 z19 M)
def gX1_sweptInto (o0 : Nat) (x1 : Int32) (M : Mem) : Option (Int32) := gX1_sweptInto_4 o0 FU x1 0 0 M
set_option maxHeartbeats 4000000 in
set_option maxRecDepth 100000 in
theorem tX1_sweptInto_4 {p : Program} {l : Launch} {e : Env} {s : State} {m : MethodId} {args : Array Value} {below : List Frame} {meth : Method} {c : Code} {E : EE} {b : Nat} {TC : Int64} {MM : Mem} {TM : Int64} {res : Int32} (X : CX E p s m args c cX1_sweptInto 4 RX1) (hr : meth.sig.returnType = (some .int)) (hlk : meth.locks = false) {o0 : Nat} (h0 : (kd o0).1 = 3)  : ∀ (n : Nat) (x1 : Int32) (x2 : Int32) (x3 : Int32) (M : Mem), gX1_sweptInto_4 o0 n x1 x2 x3 M = some res → ∀ (H : Heap) (locs : List Loc) (ls : Array Slot), WW E b M TC MM TM s H locs → lv_has ls 4 [(0, .ref (b + o0)), (1, .int x1), (2, .int x2), (3, .int x3)] → W p l e rmX1_sweptInto s m args below meth c H locs 0 0 (MQ below (va_Qi (fun x (_ : Unit) => x = res) (fun _ t => PW E b M TC MM TM t) (AA b)) args s 0 0 (AA b)) (F0 m 4 ls []) := by
  have hx := X.1
  have hb := X.2.1
  intro n
  induction n with
  | zero =>
    intro x1 x2 x3 M hf
    cases (show (none : Option (Int32)) = some res from hf)
  | succ n ih =>
    intro x1 x2 x3 M hf H locs ls hw hl
    rw [gX1_sweptInto_4] at hf
    refine lv_iload_n hx hb dX1_sweptInto_4 rfl (lv_at hl 3 rfl) ?_
    refine lv_bipush (v := 10) hx hb dX1_sweptInto_5 (by decide) ?_
    refine lv_icmp_ge (tgt := 25) hx hb dX1_sweptInto_7 (by decide) (fun c15 => ?_) (fun c15 => ?_)
    · replace hf := (if_pos c15).symm.trans hf
      refine lv_iload_n hx hb dX1_sweptInto_25 rfl (lv_at hl 2 rfl) ?_
      replace hf := Option.some.inj hf
      subst hf
      exact eI X hw hr hlk dX1_sweptInto_26
    · replace hf := (if_neg c15).symm.trans hf
      refine lv_iload_n hx hb dX1_sweptInto_10 rfl (lv_at hl 2 rfl) ?_
      refine lv_aload_n hx hb dX1_sweptInto_11 rfl (lv_at hl 0 rfl) ?_
      refine lv_iload_n hx hb dX1_sweptInto_12 rfl (lv_at hl 1 rfl) ?_
      refine lv_iload_n hx hb dX1_sweptInto_13 rfl (lv_at hl 3 rfl) ?_
      obtain ⟨u16, q17, hf⟩ := ob hf
      refine cVi (As := [.int x1, .int x3]) X hw (ctX1_sweptOf l E b h0 q17) ⟨mw_497, mw_436, mw_437, mw_57, mw_438⟩ hd_X1_sweptOf ⟨Nat.le_of_ble_eq_true rfl, Nat.le_of_ble_eq_true rfl, rfl, rfl⟩ (kdk h0 (by decide)) (ce_X1 E _ _ _ _ h0) (show vwCl[1]? = some (RX1, TX1, 6) from rfl) rfl hl.1 rfl (Nat.le_of_ble_eq_true rfl) dX1_sweptInto_14 (fun H locs hw => ?_)
      refine lv_iadd hx hb dX1_sweptInto_17 ?_
      refine lv_topi (fun z18 ez18 => ?_)
      replace hf := nmb hf ez18
      refine lv_istore_n (lv' := [(2, .int z18), (0, .ref (b + o0)), (1, .int x1), (3, .int x3)]) hx hb dX1_sweptInto_18 rfl hl (by decide) rfl (fun ls hl => ?_)
      obtain ⟨z19, ez19⟩ : ∃ y : Int32, y = x3 + 1 := ⟨_, rfl⟩
      replace hf := nmb hf ez19
      refine lv_iinc (v := z19) (lv' := [(3, .int z19), (2, .int z18), (0, .ref (b + o0)), (1, .int x1)]) hx hb dX1_sweptInto_19 hl (k := 3) rfl (by rw [ez19]; rfl) (by decide) rfl (fun ls hl => ?_)
      refine lv_goto (tgt := 4) hx hb dX1_sweptInto_22 (by decide) ?_
      exact ih x1 z18 z19 M hf H locs ls hw (lv_sub hl [2, 3, 1, 0] rfl)
set_option maxHeartbeats 4000000 in
set_option maxRecDepth 100000 in
theorem ctX1_sweptInto (l : Launch) (E : EE) (b : Nat) {TC : Int64} {MM : Mem} {TM : Int64} {o0 : Nat} {x1 : Int32} {M : Mem} {res : Int32} (h0 : (kd o0).1 = 3) (hf : gX1_sweptInto o0 x1 M = some res) : MetI l E b yX1_sweptInto (.code yX1_sweptInto cX1_sweptInto 4 (some .int)) rmX1_sweptInto [.ref (b + o0), .int x1] M TC MM TM res M TC MM TM := by
  refine Met.ofW (cc := cX1_sweptInto) (maxL := 4) (ret := (some .int)) (by decide) rfl ?_
  intro p e s m args below meth c s₁ B hml hv
  obtain ⟨rfl, hP, hK⟩ := hv
  have hx := B.exec
  have hb := B.bytes
  have X : CX E p s m _ c cX1_sweptInto 4 RX1 := ⟨hx, hb, hml, findClass_of_methodNamed B.named, fun w h => atoms_spec (ws := _ :: wt) B.pre w (List.mem_cons_of_mem _ h), hK⟩
  have hr := B.returns
  have hlk := B.notSynchronized
  have hw : WW E b M TC MM TM s s.heap [] := ⟨hP, va_S.rf⟩
  have hl := lv_entry ([.ref (b + o0), .int x1]) (n := 4) (Nat.le_of_ble_eq_true rfl)
  rw [lg_entry_eq]
  generalize (lg_sl ([.ref (b + o0), .int x1]) ++ List.replicate (4 - (lg_sl ([.ref (b + o0), .int x1])).length) Slot.unset).toArray = ls at hl ⊢
  have hl : lv_has ls 4 [(0, .ref (b + o0)), (1, .int x1)] := hl
  obtain ⟨H, hH⟩ : ∃ H, H = s.heap := ⟨_, rfl⟩
  obtain ⟨locs, hL⟩ : ∃ L : List Loc, L = [] := ⟨_, rfl⟩
  rw [← hH, ← hL] at hw
  suffices hg : W p l e rmX1_sweptInto s m _ below meth c H locs 0 0 (MQ below (va_Qi (fun x (_ : Unit) => x = res) (fun _ t => PW E b M TC MM TM t) (AA b)) _ s 0 0 (AA b)) (F0 m 0 ls []) by rw [hH, hL] at hg; exact hg
  clear hH hL
  rw [gX1_sweptInto] at hf
  refine lv_iconst (v := 0) hx hb dX1_sweptInto_0 (by decide) ?_
  refine lv_istore_n (lv' := [(2, .int 0), (0, .ref (b + o0)), (1, .int x1)]) hx hb dX1_sweptInto_1 rfl hl (by decide) rfl (fun ls hl => ?_)
  refine lv_iconst (v := 0) hx hb dX1_sweptInto_2 (by decide) ?_
  refine lv_istore_n (lv' := [(3, .int 0), (2, .int 0), (0, .ref (b + o0)), (1, .int x1)]) hx hb dX1_sweptInto_3 rfl hl (by decide) rfl (fun ls hl => ?_)
  exact tX1_sweptInto_4 X hr hlk h0 FU x1 0 0 M hf H locs ls hw (lv_sub hl [2, 3, 1, 0] rfl)

abbrev rmX0_drop : Room := { frames := 0, cells := 0, slots := 0, locals := 0 }
theorem hd_X0_drop : Hd yX0_drop RX0 0 := by decide +kernel
def gX0_drop (M : Mem) : Option (Mem) := (some (us M 181 3 0)).bind fun M20 => (some (us M20 181 4 0)).bind fun M21 => some (M21)
set_option maxHeartbeats 4000000 in
set_option maxRecDepth 100000 in
theorem ctX0_drop (l : Launch) (E : EE) (b : Nat) {TC : Int64} {MM : Mem} {TM : Int64} {M : Mem} {res : Mem}  (hf : gX0_drop M = some res) : MetV l E b yX0_drop (.code yX0_drop cX0_drop 1 none) rmX0_drop [.ref (b + 181)] M TC MM TM res TC MM TM := by
  refine Met.ofW (cc := cX0_drop) (maxL := 1) (ret := none) (by decide) rfl ?_
  intro p e s m args below meth c s₁ B hml hv
  obtain ⟨rfl, hP, hK⟩ := hv
  have hx := B.exec
  have hb := B.bytes
  have X : CX E p s m _ c cX0_drop 1 RX0 := ⟨hx, hb, hml, findClass_of_methodNamed B.named, fun w h => atoms_spec (ws := _ :: wt) B.pre w (List.mem_cons_of_mem _ h), hK⟩
  have hr := B.returns
  have hlk := B.notSynchronized
  have hw : WW E b M TC MM TM s s.heap [] := ⟨hP, va_S.rf⟩
  have hl := lv_entry ([.ref (b + 181)]) (n := 1) (Nat.le_of_ble_eq_true rfl)
  rw [lg_entry_eq]
  generalize (lg_sl ([.ref (b + 181)]) ++ List.replicate (1 - (lg_sl ([.ref (b + 181)])).length) Slot.unset).toArray = ls at hl ⊢
  have hl : lv_has ls 1 [(0, .ref (b + 181))] := hl
  obtain ⟨H, hH⟩ : ∃ H, H = s.heap := ⟨_, rfl⟩
  obtain ⟨locs, hL⟩ : ∃ L : List Loc, L = [] := ⟨_, rfl⟩
  rw [← hH, ← hL] at hw
  suffices hg : W p l e rmX0_drop s m _ below meth c H locs 0 0 (MQ below (va_Qv (fun (_ : Unit) => True) (fun _ t => PW E b res TC MM TM t) (AA b)) _ s 0 0 (AA b)) (F0 m 0 ls []) by rw [hH, hL] at hg; exact hg
  clear hH hL
  rw [gX0_drop] at hf
  refine lv_aload_n hx hb dX0_drop_0 rfl (lv_at hl 0 rfl) ?_
  refine lv_iconst (v := 0) hx hb dX0_drop_1 (by decide) ?_
  obtain ⟨M20, eM20, hf⟩ := ob hf
  refine pt_X0_3 X hw kk_181 mw_229 dX0_drop_2 (fun H locs hw => ?_)
  rw [Option.some.inj eM20] at hw
  refine lv_aload_n hx hb dX0_drop_5 rfl (lv_at hl 0 rfl) ?_
  refine lv_iconst (v := 0) hx hb dX0_drop_6 (by decide) ?_
  obtain ⟨M21, eM21, hf⟩ := ob hf
  refine pt_X0_4 X hw kk_181 mw_231 dX0_drop_7 (fun H locs hw => ?_)
  rw [Option.some.inj eM21] at hw
  replace hf := Option.some.inj hf
  subst hf
  exact eV X hw hr hlk dX0_drop_10

abbrev rmX0_fitAt : Room := { frames := 1, cells := 0, slots := 0, locals := 22 }
theorem hd_X0_fitAt : Hd yX0_fitAt RX0 3 := by decide +kernel
def gX0_fitAt_20 (o1 : Nat)  : Nat → Int32 → Int32 → Int32 → Mem → Option (Int32)
  | 0, _, _, _, _ => none
  | n + 1, x2, x3, x4, M => if (M 181 3) ≤ x4 then (some (1)) else ((gX1_layerAt o1 x2 (x3 + x4) M).bind fun u26 => (ldA 4 (M 182) x4).bind fun v28 => if u26 = v28 then ((some (x4 + 1)).bind fun z31 => (gX0_fitAt_20 o1 n) x2 x3 z31 M) else (some (0)))
def gX0_fitAt (o1 : Nat) (x2 : Int32) (x3 : Int32) (M : Mem) : Option (Int32) := (ldA 5 (M (o1 + 1)) x2).bind fun v22 => if (x3 + (M 181 3)) ≤ v22 then (gX0_fitAt_20 o1 FU x2 x3 0 M) else (some (0))
set_option maxHeartbeats 4000000 in
set_option maxRecDepth 100000 in
theorem tX0_fitAt_20 {p : Program} {l : Launch} {e : Env} {s : State} {m : MethodId} {args : Array Value} {below : List Frame} {meth : Method} {c : Code} {E : EE} {b : Nat} {TC : Int64} {MM : Mem} {TM : Int64} {res : Int32} (X : CX E p s m args c cX0_fitAt 5 RX0) (hr : meth.sig.returnType = (some .boolean)) (hlk : meth.locks = false) {o1 : Nat} (h1 : (kd o1).1 = 3)  : ∀ (n : Nat) (x2 : Int32) (x3 : Int32) (x4 : Int32) (M : Mem), gX0_fitAt_20 o1 n x2 x3 x4 M = some res → ∀ (H : Heap) (locs : List Loc) (ls : Array Slot), WW E b M TC MM TM s H locs → lv_has ls 5 [(0, .ref (b + 181)), (1, .ref (b + o1)), (2, .int x2), (3, .int x3), (4, .int x4)] → W p l e rmX0_fitAt s m args below meth c H locs 0 0 (MQ below (va_Qi (fun x (_ : Unit) => x = res) (fun _ t => PW E b M TC MM TM t) (AA b)) args s 0 0 (AA b)) (F0 m 20 ls []) := by
  have hx := X.1
  have hb := X.2.1
  intro n
  induction n with
  | zero =>
    intro x2 x3 x4 M hf
    cases (show (none : Option (Int32)) = some res from hf)
  | succ n ih =>
    intro x2 x3 x4 M hf H locs ls hw hl
    rw [gX0_fitAt_20] at hf
    refine lv_iload hx hb dX0_fitAt_20 (lv_at hl 4 rfl) ?_
    refine lv_aload_n hx hb dX0_fitAt_22 rfl (lv_at hl 0 rfl) ?_
    refine gt_X0 X hw 3 kk_181 rfl (by decide) mw_229 rfl dX0_fitAt_23 ?_
    refine lv_icmp_ge (tgt := 56) hx hb dX0_fitAt_26 (by decide) (fun c25 => ?_) (fun c25 => ?_)
    · replace hf := (if_pos c25).symm.trans hf
      refine lv_iconst (v := 1) hx hb dX0_fitAt_56 (by decide) ?_
      replace hf := Option.some.inj hf
      subst hf
      exact eZ X hw (show (1 : Int32) = 0 ∨ (1 : Int32) = 1 by decide) hr hlk dX0_fitAt_57
    · replace hf := (if_neg c25).symm.trans hf
      refine lv_aload_n hx hb dX0_fitAt_29 rfl (lv_at hl 1 rfl) ?_
      refine lv_iload_n hx hb dX0_fitAt_30 rfl (lv_at hl 2 rfl) ?_
      refine lv_iload_n hx hb dX0_fitAt_31 rfl (lv_at hl 3 rfl) ?_
      refine lv_iload hx hb dX0_fitAt_32 (lv_at hl 4 rfl) ?_
      refine lv_iadd hx hb dX0_fitAt_34 ?_
      obtain ⟨u26, q27, hf⟩ := ob hf
      refine cVi (As := [.int x2, .int (x3 + x4)]) X hw (ctX1_layerAt l E b h1 q27) ⟨mw_631, mw_413, mw_414, mw_57, mw_415⟩ hd_X1_layerAt ⟨Nat.le_of_ble_eq_true rfl, Nat.le_of_ble_eq_true rfl, rfl, rfl⟩ (kdk h1 (by decide)) (ce_X1 E _ _ _ _ h1) (show vwCl[1]? = some (RX1, TX1, 6) from rfl) rfl hl.1 rfl (Nat.le_of_ble_eq_true rfl) dX0_fitAt_35 (fun H locs hw => ?_)
      refine lv_aload_n hx hb dX0_fitAt_38 rfl (lv_at hl 0 rfl) ?_
      refine gt_X0 X hw 0 kk_181 rfl (by decide) mw_223 rfl dX0_fitAt_39 ?_
      refine lv_iload hx hb dX0_fitAt_42 (lv_at hl 4 rfl) ?_
      obtain ⟨v28, q29, hf⟩ := ob hf
      refine aldC X hw kdv_182 q29 dX0_fitAt_44 ?_
      refine lv_icmp_eq (tgt := 50) hx hb dX0_fitAt_45 (by decide) (fun c30 => ?_) (fun c30 => ?_)
      · replace hf := (if_pos c30).symm.trans hf
        obtain ⟨z31, ez31⟩ : ∃ y : Int32, y = x4 + 1 := ⟨_, rfl⟩
        replace hf := nmb hf ez31
        refine lv_iinc (v := z31) (lv' := [(4, .int z31), (0, .ref (b + 181)), (1, .ref (b + o1)), (2, .int x2), (3, .int x3)]) hx hb dX0_fitAt_50 hl (k := 4) rfl (by rw [ez31]; rfl) (by decide) rfl (fun ls hl => ?_)
        refine lv_goto (tgt := 20) hx hb dX0_fitAt_53 (by decide) ?_
        exact ih x2 x3 z31 M hf H locs ls hw (lv_sub hl [1, 2, 3, 4, 0] rfl)
      · replace hf := (if_neg c30).symm.trans hf
        refine lv_iconst (v := 0) hx hb dX0_fitAt_48 (by decide) ?_
        replace hf := Option.some.inj hf
        subst hf
        exact eZ X hw (show (0 : Int32) = 0 ∨ (0 : Int32) = 1 by decide) hr hlk dX0_fitAt_49
set_option maxHeartbeats 4000000 in
set_option maxRecDepth 100000 in
theorem ctX0_fitAt (l : Launch) (E : EE) (b : Nat) {TC : Int64} {MM : Mem} {TM : Int64} {o1 : Nat} {x2 : Int32} {x3 : Int32} {M : Mem} {res : Int32} (h1 : (kd o1).1 = 3) (hf : gX0_fitAt o1 x2 x3 M = some res) : MetI l E b yX0_fitAt (.code yX0_fitAt cX0_fitAt 5 (some .boolean)) rmX0_fitAt [.ref (b + 181), .ref (b + o1), .int x2, .int x3] M TC MM TM res M TC MM TM := by
  refine Met.ofW (cc := cX0_fitAt) (maxL := 5) (ret := (some .boolean)) (by decide) rfl ?_
  intro p e s m args below meth c s₁ B hml hv
  obtain ⟨rfl, hP, hK⟩ := hv
  have hx := B.exec
  have hb := B.bytes
  have X : CX E p s m _ c cX0_fitAt 5 RX0 := ⟨hx, hb, hml, findClass_of_methodNamed B.named, fun w h => atoms_spec (ws := _ :: wt) B.pre w (List.mem_cons_of_mem _ h), hK⟩
  have hr := B.returns
  have hlk := B.notSynchronized
  have hw : WW E b M TC MM TM s s.heap [] := ⟨hP, va_S.rf⟩
  have hl := lv_entry ([.ref (b + 181), .ref (b + o1), .int x2, .int x3]) (n := 5) (Nat.le_of_ble_eq_true rfl)
  rw [lg_entry_eq]
  generalize (lg_sl ([.ref (b + 181), .ref (b + o1), .int x2, .int x3]) ++ List.replicate (5 - (lg_sl ([.ref (b + 181), .ref (b + o1), .int x2, .int x3])).length) Slot.unset).toArray = ls at hl ⊢
  have hl : lv_has ls 5 [(0, .ref (b + 181)), (1, .ref (b + o1)), (2, .int x2), (3, .int x3)] := hl
  obtain ⟨H, hH⟩ : ∃ H, H = s.heap := ⟨_, rfl⟩
  obtain ⟨locs, hL⟩ : ∃ L : List Loc, L = [] := ⟨_, rfl⟩
  rw [← hH, ← hL] at hw
  suffices hg : W p l e rmX0_fitAt s m _ below meth c H locs 0 0 (MQ below (va_Qi (fun x (_ : Unit) => x = res) (fun _ t => PW E b M TC MM TM t) (AA b)) _ s 0 0 (AA b)) (F0 m 0 ls []) by rw [hH, hL] at hg; exact hg
  clear hH hL
  rw [gX0_fitAt] at hf
  refine lv_iload_n hx hb dX0_fitAt_0 rfl (lv_at hl 3 rfl) ?_
  refine lv_aload_n hx hb dX0_fitAt_1 rfl (lv_at hl 0 rfl) ?_
  refine gt_X0 X hw 3 kk_181 rfl (by decide) mw_229 rfl dX0_fitAt_2 ?_
  refine lv_iadd hx hb dX0_fitAt_5 ?_
  refine lv_aload_n hx hb dX0_fitAt_6 rfl (lv_at hl 1 rfl) ?_
  refine gt_X1 X hw 0 h1 rfl (by decide) mw_180 rfl dX0_fitAt_7 ?_
  refine lv_iload_n hx hb dX0_fitAt_10 rfl (lv_at hl 2 rfl) ?_
  obtain ⟨v22, q23, hf⟩ := ob hf
  refine aldC X hw (kr_X1_0 h1) q23 dX0_fitAt_11 ?_
  refine lv_icmp_le (tgt := 17) hx hb dX0_fitAt_12 (by decide) (fun c24 => ?_) (fun c24 => ?_)
  · replace hf := (if_pos c24).symm.trans hf
    refine lv_iconst (v := 0) hx hb dX0_fitAt_17 (by decide) ?_
    refine lv_istore (lv' := [(4, .int 0), (0, .ref (b + 181)), (1, .ref (b + o1)), (2, .int x2), (3, .int x3)]) hx hb dX0_fitAt_18 hl (by decide) rfl (fun ls hl => ?_)
    exact tX0_fitAt_20 X hr hlk h1 FU x2 x3 0 M hf H locs ls hw (lv_sub hl [1, 2, 3, 4, 0] rfl)
  · replace hf := (if_neg c24).symm.trans hf
    refine lv_iconst (v := 0) hx hb dX0_fitAt_15 (by decide) ?_
    replace hf := Option.some.inj hf
    subst hf
    exact eZ X hw (show (0 : Int32) = 0 ∨ (0 : Int32) = 1 by decide) hr hlk dX0_fitAt_16

abbrev rmX5_begin : Room := { frames := 2, cells := 0, slots := 0, locals := 44 }
theorem hd_X5_begin : Hd yX5_begin RX5 1 := by decide +kernel
def gX5_begin (o0 : Nat) (x1 : Int32) (M : Mem) : Option (Mem) := (gX1_begin ((o0 + 1)) x1 M).bind fun u32 => (some (us u32 o0 2 0)).bind fun M34 => some (M34)
set_option maxHeartbeats 4000000 in
set_option maxRecDepth 100000 in
theorem ctX5_begin (l : Launch) (E : EE) (b : Nat) {TC : Int64} {MM : Mem} {TM : Int64} {o0 : Nat} {x1 : Int32} {M : Mem} {res : Mem} (h0 : (kd o0).1 = 7) (hf : gX5_begin o0 x1 M = some res) : MetV l E b yX5_begin (.code yX5_begin cX5_begin 2 none) rmX5_begin [.ref (b + o0), .int x1] M TC MM TM res TC MM TM := by
  refine Met.ofW (cc := cX5_begin) (maxL := 2) (ret := none) (by decide) rfl ?_
  intro p e s m args below meth c s₁ B hml hv
  obtain ⟨rfl, hP, hK⟩ := hv
  have hx := B.exec
  have hb := B.bytes
  have X : CX E p s m _ c cX5_begin 2 RX5 := ⟨hx, hb, hml, findClass_of_methodNamed B.named, fun w h => atoms_spec (ws := _ :: wt) B.pre w (List.mem_cons_of_mem _ h), hK⟩
  have hr := B.returns
  have hlk := B.notSynchronized
  have hw : WW E b M TC MM TM s s.heap [] := ⟨hP, va_S.rf⟩
  have hl := lv_entry ([.ref (b + o0), .int x1]) (n := 2) (Nat.le_of_ble_eq_true rfl)
  rw [lg_entry_eq]
  generalize (lg_sl ([.ref (b + o0), .int x1]) ++ List.replicate (2 - (lg_sl ([.ref (b + o0), .int x1])).length) Slot.unset).toArray = ls at hl ⊢
  have hl : lv_has ls 2 [(0, .ref (b + o0)), (1, .int x1)] := hl
  obtain ⟨H, hH⟩ : ∃ H, H = s.heap := ⟨_, rfl⟩
  obtain ⟨locs, hL⟩ : ∃ L : List Loc, L = [] := ⟨_, rfl⟩
  rw [← hH, ← hL] at hw
  suffices hg : W p l e rmX5_begin s m _ below meth c H locs 0 0 (MQ below (va_Qv (fun (_ : Unit) => True) (fun _ t => PW E b res TC MM TM t) (AA b)) _ s 0 0 (AA b)) (F0 m 0 ls []) by rw [hH, hL] at hg; exact hg
  clear hH hL
  rw [gX5_begin] at hf
  refine lv_aload_n hx hb dX5_begin_0 rfl (lv_at hl 0 rfl) ?_
  refine gt_X5 X hw 0 h0 rfl (by decide) mw_204 rfl dX5_begin_1 ?_
  refine lv_iload_n hx hb dX5_begin_4 rfl (lv_at hl 1 rfl) ?_
  obtain ⟨u32, q33, hf⟩ := ob hf
  refine cVv (As := [.int x1]) X hw (ctX1_begin l E b (kr_X5_0 h0) q33) ⟨mw_392, mw_393, mw_394, mw_57, mw_395⟩ hd_X1_begin ⟨Nat.le_of_ble_eq_true rfl, Nat.le_of_ble_eq_true rfl, rfl, rfl⟩ (kdk (kr_X5_0 h0) (by decide)) (ce_X1 E _ _ _ _ (kr_X5_0 h0)) (show vwCl[1]? = some (RX1, TX1, 6) from rfl) rfl hl.1 rfl (Nat.le_of_ble_eq_true rfl) dX5_begin_5 (fun H locs hw => ?_)
  refine lv_aload_n hx hb dX5_begin_8 rfl (lv_at hl 0 rfl) ?_
  refine lv_iconst (v := 0) hx hb dX5_begin_9 (by decide) ?_
  obtain ⟨M34, eM34, hf⟩ := ob hf
  refine pt_X5_2 X hw h0 mw_207 dX5_begin_10 (fun H locs hw => ?_)
  rw [Option.some.inj eM34] at hw
  replace hf := Option.some.inj hf
  subst hf
  exact eV X hw hr hlk dX5_begin_13

abbrev rmX5_loseOldest : Room := { frames := 0, cells := 0, slots := 0, locals := 0 }
theorem hd_X5_loseOldest : Hd yX5_loseOldest RX5 0 := by decide +kernel
def gX5_loseOldest_9 (o0 : Nat)  : Nat → Int32 → Int32 → Mem → Option (Mem)
  | 0, _, _, _ => none
  | n + 1, x1, x2, M => if 10 ≤ x2 then ((gK 3 x1).bind fun _ => (stA 10 M (o0 + 6) 9 x1).bind fun M39 => (some (us M39 o0 2 9)).bind fun M41 => some (M41)) else ((ldR 3 10 (M (o0 + 6)) x2).bind fun v42 => (stA 10 M (o0 + 6) (x2 - 1) v42).bind fun M44 => (some (x2 + 1)).bind fun z46 => (gX5_loseOldest_9 o0 n) x1 z46 M44)
def gX5_loseOldest (o0 : Nat) (M : Mem) : Option (Mem) := (ldR 3 10 (M (o0 + 6)) 0).bind fun v35 => gX5_loseOldest_9 o0 FU v35 1 M
set_option maxHeartbeats 4000000 in
set_option maxRecDepth 100000 in
theorem tX5_loseOldest_9 {p : Program} {l : Launch} {e : Env} {s : State} {m : MethodId} {args : Array Value} {below : List Frame} {meth : Method} {c : Code} {E : EE} {b : Nat} {TC : Int64} {MM : Mem} {TM : Int64} {res : Mem} (X : CX E p s m args c cX5_loseOldest 3 RX5) (hr : meth.sig.returnType = none) (hlk : meth.locks = false) {o0 : Nat} (h0 : (kd o0).1 = 7)  : ∀ (n : Nat) (x1 : Int32) (x2 : Int32) (M : Mem), gX5_loseOldest_9 o0 n x1 x2 M = some res → ∀ (H : Heap) (locs : List Loc) (ls : Array Slot), WW E b M TC MM TM s H locs → lv_has ls 3 [(0, .ref (b + o0)), (1, .ref (b + x1.toNatClampNeg)), (2, .int x2)] → W p l e rmX5_loseOldest s m args below meth c H locs 0 0 (MQ below (va_Qv (fun (_ : Unit) => True) (fun _ t => PW E b res TC MM TM t) (AA b)) args s 0 0 (AA b)) (F0 m 9 ls []) := by
  have hx := X.1
  have hb := X.2.1
  intro n
  induction n with
  | zero =>
    intro x1 x2 M hf
    cases (show (none : Option (Mem)) = some res from hf)
  | succ n ih =>
    intro x1 x2 M hf H locs ls hw hl
    rw [gX5_loseOldest_9] at hf
    refine lv_iload_n hx hb dX5_loseOldest_9 rfl (lv_at hl 2 rfl) ?_
    refine lv_bipush (v := 10) hx hb dX5_loseOldest_10 (by decide) ?_
    refine lv_icmp_ge (tgt := 35) hx hb dX5_loseOldest_12 (by decide) (fun c37 => ?_) (fun c37 => ?_)
    · replace hf := (if_pos c37).symm.trans hf
      refine lv_aload_n hx hb dX5_loseOldest_35 rfl (lv_at hl 0 rfl) ?_
      refine gt_X5 X hw 1 h0 rfl (by decide) mw_206 rfl dX5_loseOldest_36 ?_
      refine lv_bipush (v := 9) hx hb dX5_loseOldest_39 (by decide) ?_
      refine lv_aload_n hx hb dX5_loseOldest_41 rfl (lv_at hl 1 rfl) ?_
      obtain ⟨_, q38, hf⟩ := ob hf
      obtain ⟨M39, q40, hf⟩ := ob hf
      refine rstM X hw (kr_X5_1 h0) (gK_s q38) q40 dX5_loseOldest_42 (fun H locs hw => ?_)
      refine lv_aload_n hx hb dX5_loseOldest_43 rfl (lv_at hl 0 rfl) ?_
      refine lv_bipush (v := 9) hx hb dX5_loseOldest_44 (by decide) ?_
      obtain ⟨M41, eM41, hf⟩ := ob hf
      refine pt_X5_2 X hw h0 mw_207 dX5_loseOldest_46 (fun H locs hw => ?_)
      rw [Option.some.inj eM41] at hw
      replace hf := Option.some.inj hf
      subst hf
      exact eV X hw hr hlk dX5_loseOldest_49
    · replace hf := (if_neg c37).symm.trans hf
      refine lv_aload_n hx hb dX5_loseOldest_15 rfl (lv_at hl 0 rfl) ?_
      refine gt_X5 X hw 1 h0 rfl (by decide) mw_206 rfl dX5_loseOldest_16 ?_
      refine lv_iload_n hx hb dX5_loseOldest_19 rfl (lv_at hl 2 rfl) ?_
      refine lv_iconst (v := 1) hx hb dX5_loseOldest_20 (by decide) ?_
      refine lv_isub hx hb dX5_loseOldest_21 ?_
      refine lv_aload_n hx hb dX5_loseOldest_22 rfl (lv_at hl 0 rfl) ?_
      refine gt_X5 X hw 1 h0 rfl (by decide) mw_206 rfl dX5_loseOldest_23 ?_
      refine lv_iload_n hx hb dX5_loseOldest_26 rfl (lv_at hl 2 rfl) ?_
      obtain ⟨v42, q43, hf⟩ := ob hf
      refine rldM X hw (kr_X5_1 h0) q43 dX5_loseOldest_27 ?_
      obtain ⟨M44, q45, hf⟩ := ob hf
      refine rstM X hw (kr_X5_1 h0) (ldR_s q43).2.2 q45 dX5_loseOldest_28 (fun H locs hw => ?_)
      obtain ⟨z46, ez46⟩ : ∃ y : Int32, y = x2 + 1 := ⟨_, rfl⟩
      replace hf := nmb hf ez46
      refine lv_iinc (v := z46) (lv' := [(2, .int z46), (0, .ref (b + o0)), (1, .ref (b + x1.toNatClampNeg))]) hx hb dX5_loseOldest_29 hl (k := 2) rfl (by rw [ez46]; rfl) (by decide) rfl (fun ls hl => ?_)
      refine lv_goto (tgt := 9) hx hb dX5_loseOldest_32 (by decide) ?_
      exact ih x1 z46 M44 hf H locs ls hw (lv_sub hl [1, 2, 0] rfl)
set_option maxHeartbeats 4000000 in
set_option maxRecDepth 100000 in
theorem ctX5_loseOldest (l : Launch) (E : EE) (b : Nat) {TC : Int64} {MM : Mem} {TM : Int64} {o0 : Nat} {M : Mem} {res : Mem} (h0 : (kd o0).1 = 7) (hf : gX5_loseOldest o0 M = some res) : MetV l E b yX5_loseOldest (.code yX5_loseOldest cX5_loseOldest 3 none) rmX5_loseOldest [.ref (b + o0)] M TC MM TM res TC MM TM := by
  refine Met.ofW (cc := cX5_loseOldest) (maxL := 3) (ret := none) (by decide) rfl ?_
  intro p e s m args below meth c s₁ B hml hv
  obtain ⟨rfl, hP, hK⟩ := hv
  have hx := B.exec
  have hb := B.bytes
  have X : CX E p s m _ c cX5_loseOldest 3 RX5 := ⟨hx, hb, hml, findClass_of_methodNamed B.named, fun w h => atoms_spec (ws := _ :: wt) B.pre w (List.mem_cons_of_mem _ h), hK⟩
  have hr := B.returns
  have hlk := B.notSynchronized
  have hw : WW E b M TC MM TM s s.heap [] := ⟨hP, va_S.rf⟩
  have hl := lv_entry ([.ref (b + o0)]) (n := 3) (Nat.le_of_ble_eq_true rfl)
  rw [lg_entry_eq]
  generalize (lg_sl ([.ref (b + o0)]) ++ List.replicate (3 - (lg_sl ([.ref (b + o0)])).length) Slot.unset).toArray = ls at hl ⊢
  have hl : lv_has ls 3 [(0, .ref (b + o0))] := hl
  obtain ⟨H, hH⟩ : ∃ H, H = s.heap := ⟨_, rfl⟩
  obtain ⟨locs, hL⟩ : ∃ L : List Loc, L = [] := ⟨_, rfl⟩
  rw [← hH, ← hL] at hw
  suffices hg : W p l e rmX5_loseOldest s m _ below meth c H locs 0 0 (MQ below (va_Qv (fun (_ : Unit) => True) (fun _ t => PW E b res TC MM TM t) (AA b)) _ s 0 0 (AA b)) (F0 m 0 ls []) by rw [hH, hL] at hg; exact hg
  clear hH hL
  rw [gX5_loseOldest] at hf
  refine lv_aload_n hx hb dX5_loseOldest_0 rfl (lv_at hl 0 rfl) ?_
  refine gt_X5 X hw 1 h0 rfl (by decide) mw_206 rfl dX5_loseOldest_1 ?_
  refine lv_iconst (v := 0) hx hb dX5_loseOldest_4 (by decide) ?_
  obtain ⟨v35, q36, hf⟩ := ob hf
  refine rldM X hw (kr_X5_1 h0) q36 dX5_loseOldest_5 ?_
  refine lv_astore_n (lv' := [(1, .ref (b + v35.toNatClampNeg)), (0, .ref (b + o0))]) hx hb dX5_loseOldest_6 rfl hl (by decide) rfl (fun ls hl => ?_)
  refine lv_iconst (v := 1) hx hb dX5_loseOldest_7 (by decide) ?_
  refine lv_istore_n (lv' := [(2, .int 1), (1, .ref (b + v35.toNatClampNeg)), (0, .ref (b + o0))]) hx hb dX5_loseOldest_8 rfl hl (by decide) rfl (fun ls hl => ?_)
  exact tX5_loseOldest_9 X hr hlk h0 FU v35 1 M hf H locs ls hw (lv_sub hl [2, 1, 0] rfl)

abbrev rmX5_remember : Room := { frames := 2, cells := 0, slots := 0, locals := 81 }
theorem hd_X5_remember : Hd yX5_remember RX5 0 := by decide +kernel
def gX5_remember_13 (o0 : Nat)  (M : Mem) : Option (Mem) := (ldR 3 10 (M (o0 + 6)) (M o0 2)).bind fun v48 => (gX1_copyFrom v48.toNatClampNeg ((o0 + 1)) M).bind fun u50 => (some (us u50 o0 2 ((u50 o0 2) + 1))).bind fun M52 => some (M52)
def gX5_remember (o0 : Nat) (M : Mem) : Option (Mem) := if (M o0 2) < 10 then (gX5_remember_13 o0 M) else ((gX5_loseOldest o0 M).bind fun u53 => gX5_remember_13 o0 u53)
set_option maxHeartbeats 4000000 in
set_option maxRecDepth 100000 in
theorem tX5_remember_13 {p : Program} {l : Launch} {e : Env} {s : State} {m : MethodId} {args : Array Value} {below : List Frame} {meth : Method} {c : Code} {E : EE} {b : Nat} {TC : Int64} {MM : Mem} {TM : Int64} {res : Mem} (X : CX E p s m args c cX5_remember 1 RX5) (hr : meth.sig.returnType = none) (hlk : meth.locks = false) {o0 : Nat} (h0 : (kd o0).1 = 7)  : ∀ (M : Mem), gX5_remember_13 o0 M = some res → ∀ (H : Heap) (locs : List Loc) (ls : Array Slot), WW E b M TC MM TM s H locs → lv_has ls 1 [(0, .ref (b + o0))] → W p l e rmX5_remember s m args below meth c H locs 0 0 (MQ below (va_Qv (fun (_ : Unit) => True) (fun _ t => PW E b res TC MM TM t) (AA b)) args s 0 0 (AA b)) (F0 m 13 ls []) := by
  have hx := X.1
  have hb := X.2.1
  intro M hf H locs ls hw hl
  rw [gX5_remember_13] at hf
  refine lv_aload_n hx hb dX5_remember_13 rfl (lv_at hl 0 rfl) ?_
  refine gt_X5 X hw 1 h0 rfl (by decide) mw_206 rfl dX5_remember_14 ?_
  refine lv_aload_n hx hb dX5_remember_17 rfl (lv_at hl 0 rfl) ?_
  refine gt_X5 X hw 2 h0 rfl (by decide) mw_207 rfl dX5_remember_18 ?_
  obtain ⟨v48, q49, hf⟩ := ob hf
  refine rldM X hw (kr_X5_1 h0) q49 dX5_remember_21 ?_
  refine lv_aload_n hx hb dX5_remember_22 rfl (lv_at hl 0 rfl) ?_
  refine gt_X5 X hw 0 h0 rfl (by decide) mw_204 rfl dX5_remember_23 ?_
  obtain ⟨u50, q51, hf⟩ := ob hf
  refine cVv (As := [.ref (b + (o0 + 1))]) X hw (ctX1_copyFrom l E b (ldR_s q49).2.2 (kr_X5_0 h0) q51) ⟨mw_451, mw_452, mw_453, mw_57, mw_454⟩ hd_X1_copyFrom ⟨Nat.le_of_ble_eq_true rfl, Nat.le_of_ble_eq_true rfl, rfl, rfl⟩ (kdk (ldR_s q49).2.2 (by decide)) (ce_X1 E _ _ _ _ (ldR_s q49).2.2) (show vwCl[1]? = some (RX1, TX1, 6) from rfl) rfl hl.1 rfl (Nat.le_of_ble_eq_true rfl) dX5_remember_26 (fun H locs hw => ?_)
  refine lv_aload_n hx hb dX5_remember_29 rfl (lv_at hl 0 rfl) ?_
  refine lv_dup hx hb dX5_remember_30 rfl ?_
  refine gt_X5 X hw 2 h0 rfl (by decide) mw_207 rfl dX5_remember_31 ?_
  refine lv_iconst (v := 1) hx hb dX5_remember_34 (by decide) ?_
  refine lv_iadd hx hb dX5_remember_35 ?_
  obtain ⟨M52, eM52, hf⟩ := ob hf
  refine pt_X5_2 X hw h0 mw_207 dX5_remember_36 (fun H locs hw => ?_)
  rw [Option.some.inj eM52] at hw
  replace hf := Option.some.inj hf
  subst hf
  exact eV X hw hr hlk dX5_remember_39
set_option maxHeartbeats 4000000 in
set_option maxRecDepth 100000 in
theorem ctX5_remember (l : Launch) (E : EE) (b : Nat) {TC : Int64} {MM : Mem} {TM : Int64} {o0 : Nat} {M : Mem} {res : Mem} (h0 : (kd o0).1 = 7) (hf : gX5_remember o0 M = some res) : MetV l E b yX5_remember (.code yX5_remember cX5_remember 1 none) rmX5_remember [.ref (b + o0)] M TC MM TM res TC MM TM := by
  refine Met.ofW (cc := cX5_remember) (maxL := 1) (ret := none) (by decide) rfl ?_
  intro p e s m args below meth c s₁ B hml hv
  obtain ⟨rfl, hP, hK⟩ := hv
  have hx := B.exec
  have hb := B.bytes
  have X : CX E p s m _ c cX5_remember 1 RX5 := ⟨hx, hb, hml, findClass_of_methodNamed B.named, fun w h => atoms_spec (ws := _ :: wt) B.pre w (List.mem_cons_of_mem _ h), hK⟩
  have hr := B.returns
  have hlk := B.notSynchronized
  have hw : WW E b M TC MM TM s s.heap [] := ⟨hP, va_S.rf⟩
  have hl := lv_entry ([.ref (b + o0)]) (n := 1) (Nat.le_of_ble_eq_true rfl)
  rw [lg_entry_eq]
  generalize (lg_sl ([.ref (b + o0)]) ++ List.replicate (1 - (lg_sl ([.ref (b + o0)])).length) Slot.unset).toArray = ls at hl ⊢
  have hl : lv_has ls 1 [(0, .ref (b + o0))] := hl
  obtain ⟨H, hH⟩ : ∃ H, H = s.heap := ⟨_, rfl⟩
  obtain ⟨locs, hL⟩ : ∃ L : List Loc, L = [] := ⟨_, rfl⟩
  rw [← hH, ← hL] at hw
  suffices hg : W p l e rmX5_remember s m _ below meth c H locs 0 0 (MQ below (va_Qv (fun (_ : Unit) => True) (fun _ t => PW E b res TC MM TM t) (AA b)) _ s 0 0 (AA b)) (F0 m 0 ls []) by rw [hH, hL] at hg; exact hg
  clear hH hL
  rw [gX5_remember] at hf
  refine lv_aload_n hx hb dX5_remember_0 rfl (lv_at hl 0 rfl) ?_
  refine gt_X5 X hw 2 h0 rfl (by decide) mw_207 rfl dX5_remember_1 ?_
  refine lv_bipush (v := 10) hx hb dX5_remember_4 (by decide) ?_
  refine lv_icmp_lt (tgt := 13) hx hb dX5_remember_6 (by decide) (fun c47 => ?_) (fun c47 => ?_)
  · replace hf := (if_pos c47).symm.trans hf
    exact tX5_remember_13 X hr hlk h0 M hf H locs ls hw (lv_sub hl [0] rfl)
  · replace hf := (if_neg c47).symm.trans hf
    refine lv_aload_n hx hb dX5_remember_9 rfl (lv_at hl 0 rfl) ?_
    obtain ⟨u53, q54, hf⟩ := ob hf
    refine cVv (As := []) X hw (ctX5_loseOldest l E b h0 q54) ⟨mw_447, mw_449, mw_10, mw_56, mw_450⟩ hd_X5_loseOldest ⟨Nat.le_of_ble_eq_true rfl, Nat.le_of_ble_eq_true rfl, rfl, rfl⟩ (kdk h0 (by decide)) (ce_X5 E _ _ _ _ h0) (show vwCl[5]? = some (RX5, TX5, 3) from rfl) rfl hl.1 rfl (Nat.le_of_ble_eq_true rfl) dX5_remember_10 (fun H locs hw => ?_)
    exact tX5_remember_13 X hr hlk h0 u53 hf H locs ls hw (lv_sub hl [0] rfl)

abbrev rmX5_goBack : Room := { frames := 2, cells := 0, slots := 0, locals := 81 }
theorem hd_X5_goBack : Hd yX5_goBack RX5 0 := by decide +kernel
def gX5_goBack (o0 : Nat) (M : Mem) : Option (Mem) := if (M o0 2) ≤ 0 then (some (M)) else ((some (us M o0 2 ((M o0 2) - 1))).bind fun M56 => (ldR 3 10 (M56 (o0 + 6)) (M56 o0 2)).bind fun v57 => (gX1_copyFrom ((o0 + 1)) v57.toNatClampNeg M56).bind fun u59 => some (u59))
set_option maxHeartbeats 4000000 in
set_option maxRecDepth 100000 in
theorem ctX5_goBack (l : Launch) (E : EE) (b : Nat) {TC : Int64} {MM : Mem} {TM : Int64} {o0 : Nat} {M : Mem} {res : Mem} (h0 : (kd o0).1 = 7) (hf : gX5_goBack o0 M = some res) : MetV l E b yX5_goBack (.code yX5_goBack cX5_goBack 1 none) rmX5_goBack [.ref (b + o0)] M TC MM TM res TC MM TM := by
  refine Met.ofW (cc := cX5_goBack) (maxL := 1) (ret := none) (by decide) rfl ?_
  intro p e s m args below meth c s₁ B hml hv
  obtain ⟨rfl, hP, hK⟩ := hv
  have hx := B.exec
  have hb := B.bytes
  have X : CX E p s m _ c cX5_goBack 1 RX5 := ⟨hx, hb, hml, findClass_of_methodNamed B.named, fun w h => atoms_spec (ws := _ :: wt) B.pre w (List.mem_cons_of_mem _ h), hK⟩
  have hr := B.returns
  have hlk := B.notSynchronized
  have hw : WW E b M TC MM TM s s.heap [] := ⟨hP, va_S.rf⟩
  have hl := lv_entry ([.ref (b + o0)]) (n := 1) (Nat.le_of_ble_eq_true rfl)
  rw [lg_entry_eq]
  generalize (lg_sl ([.ref (b + o0)]) ++ List.replicate (1 - (lg_sl ([.ref (b + o0)])).length) Slot.unset).toArray = ls at hl ⊢
  have hl : lv_has ls 1 [(0, .ref (b + o0))] := hl
  obtain ⟨H, hH⟩ : ∃ H, H = s.heap := ⟨_, rfl⟩
  obtain ⟨locs, hL⟩ : ∃ L : List Loc, L = [] := ⟨_, rfl⟩
  rw [← hH, ← hL] at hw
  suffices hg : W p l e rmX5_goBack s m _ below meth c H locs 0 0 (MQ below (va_Qv (fun (_ : Unit) => True) (fun _ t => PW E b res TC MM TM t) (AA b)) _ s 0 0 (AA b)) (F0 m 0 ls []) by rw [hH, hL] at hg; exact hg
  clear hH hL
  rw [gX5_goBack] at hf
  refine lv_aload_n hx hb dX5_goBack_0 rfl (lv_at hl 0 rfl) ?_
  refine gt_X5 X hw 2 h0 rfl (by decide) mw_207 rfl dX5_goBack_1 ?_
  refine lv_if_le (tgt := 33) hx hb dX5_goBack_4 (by decide) (fun c55 => ?_) (fun c55 => ?_)
  · replace hf := (if_pos c55).symm.trans hf
    replace hf := Option.some.inj hf
    subst hf
    exact eV X hw hr hlk dX5_goBack_33
  · replace hf := (if_neg c55).symm.trans hf
    refine lv_aload_n hx hb dX5_goBack_7 rfl (lv_at hl 0 rfl) ?_
    refine lv_dup hx hb dX5_goBack_8 rfl ?_
    refine gt_X5 X hw 2 h0 rfl (by decide) mw_207 rfl dX5_goBack_9 ?_
    refine lv_iconst (v := 1) hx hb dX5_goBack_12 (by decide) ?_
    refine lv_isub hx hb dX5_goBack_13 ?_
    obtain ⟨M56, eM56, hf⟩ := ob hf
    refine pt_X5_2 X hw h0 mw_207 dX5_goBack_14 (fun H locs hw => ?_)
    rw [Option.some.inj eM56] at hw
    refine lv_aload_n hx hb dX5_goBack_17 rfl (lv_at hl 0 rfl) ?_
    refine gt_X5 X hw 0 h0 rfl (by decide) mw_204 rfl dX5_goBack_18 ?_
    refine lv_aload_n hx hb dX5_goBack_21 rfl (lv_at hl 0 rfl) ?_
    refine gt_X5 X hw 1 h0 rfl (by decide) mw_206 rfl dX5_goBack_22 ?_
    refine lv_aload_n hx hb dX5_goBack_25 rfl (lv_at hl 0 rfl) ?_
    refine gt_X5 X hw 2 h0 rfl (by decide) mw_207 rfl dX5_goBack_26 ?_
    obtain ⟨v57, q58, hf⟩ := ob hf
    refine rldM X hw (kr_X5_1 h0) q58 dX5_goBack_29 ?_
    obtain ⟨u59, q60, hf⟩ := ob hf
    refine cVv (As := [.ref (b + v57.toNatClampNeg)]) X hw (ctX1_copyFrom l E b (kr_X5_0 h0) (ldR_s q58).2.2 q60) ⟨mw_451, mw_452, mw_453, mw_57, mw_454⟩ hd_X1_copyFrom ⟨Nat.le_of_ble_eq_true rfl, Nat.le_of_ble_eq_true rfl, rfl, rfl⟩ (kdk (kr_X5_0 h0) (by decide)) (ce_X1 E _ _ _ _ (kr_X5_0 h0)) (show vwCl[1]? = some (RX1, TX1, 6) from rfl) rfl hl.1 rfl (Nat.le_of_ble_eq_true rfl) dX5_goBack_30 (fun H locs hw => ?_)
    replace hf := Option.some.inj hf
    subst hf
    exact eV X hw hr hlk dX5_goBack_33

abbrev rmX5_copyFrom : Room := { frames := 2, cells := 0, slots := 0, locals := 81 }
theorem hd_X5_copyFrom : Hd yX5_copyFrom RX5 1 := by decide +kernel
def gX5_copyFrom_21 (o0 : Nat) (o1 : Nat)  : Nat → Int32 → Mem → Option (Mem)
  | 0, _, _ => none
  | n + 1, x2, M => if (M o0 2) ≤ x2 then (some (M)) else ((ldR 3 10 (M (o0 + 6)) x2).bind fun v65 => (ldR 3 10 (M (o1 + 6)) x2).bind fun v67 => (gX1_copyFrom v65.toNatClampNeg v67.toNatClampNeg M).bind fun u69 => (some (x2 + 1)).bind fun z71 => (gX5_copyFrom_21 o0 o1 n) z71 u69)
def gX5_copyFrom (o0 : Nat) (o1 : Nat) (M : Mem) : Option (Mem) := (gX1_copyFrom ((o0 + 1)) ((o1 + 1)) M).bind fun u61 => (some (us u61 o0 2 (u61 o1 2))).bind fun M63 => gX5_copyFrom_21 o0 o1 FU 0 M63
set_option maxHeartbeats 4000000 in
set_option maxRecDepth 100000 in
theorem tX5_copyFrom_21 {p : Program} {l : Launch} {e : Env} {s : State} {m : MethodId} {args : Array Value} {below : List Frame} {meth : Method} {c : Code} {E : EE} {b : Nat} {TC : Int64} {MM : Mem} {TM : Int64} {res : Mem} (X : CX E p s m args c cX5_copyFrom 3 RX5) (hr : meth.sig.returnType = none) (hlk : meth.locks = false) {o0 : Nat} {o1 : Nat} (h0 : (kd o0).1 = 7) (h1 : (kd o1).1 = 7)  : ∀ (n : Nat) (x2 : Int32) (M : Mem), gX5_copyFrom_21 o0 o1 n x2 M = some res → ∀ (H : Heap) (locs : List Loc) (ls : Array Slot), WW E b M TC MM TM s H locs → lv_has ls 3 [(0, .ref (b + o0)), (1, .ref (b + o1)), (2, .int x2)] → W p l e rmX5_copyFrom s m args below meth c H locs 0 0 (MQ below (va_Qv (fun (_ : Unit) => True) (fun _ t => PW E b res TC MM TM t) (AA b)) args s 0 0 (AA b)) (F0 m 21 ls []) := by
  have hx := X.1
  have hb := X.2.1
  intro n
  induction n with
  | zero =>
    intro x2 M hf
    cases (show (none : Option (Mem)) = some res from hf)
  | succ n ih =>
    intro x2 M hf H locs ls hw hl
    rw [gX5_copyFrom_21] at hf
    refine lv_iload_n hx hb dX5_copyFrom_21 rfl (lv_at hl 2 rfl) ?_
    refine lv_aload_n hx hb dX5_copyFrom_22 rfl (lv_at hl 0 rfl) ?_
    refine gt_X5 X hw 2 h0 rfl (by decide) mw_207 rfl dX5_copyFrom_23 ?_
    refine lv_icmp_ge (tgt := 50) hx hb dX5_copyFrom_26 (by decide) (fun c64 => ?_) (fun c64 => ?_)
    · replace hf := (if_pos c64).symm.trans hf
      replace hf := Option.some.inj hf
      subst hf
      exact eV X hw hr hlk dX5_copyFrom_50
    · replace hf := (if_neg c64).symm.trans hf
      refine lv_aload_n hx hb dX5_copyFrom_29 rfl (lv_at hl 0 rfl) ?_
      refine gt_X5 X hw 1 h0 rfl (by decide) mw_206 rfl dX5_copyFrom_30 ?_
      refine lv_iload_n hx hb dX5_copyFrom_33 rfl (lv_at hl 2 rfl) ?_
      obtain ⟨v65, q66, hf⟩ := ob hf
      refine rldM X hw (kr_X5_1 h0) q66 dX5_copyFrom_34 ?_
      refine lv_aload_n hx hb dX5_copyFrom_35 rfl (lv_at hl 1 rfl) ?_
      refine gt_X5 X hw 1 h1 rfl (by decide) mw_206 rfl dX5_copyFrom_36 ?_
      refine lv_iload_n hx hb dX5_copyFrom_39 rfl (lv_at hl 2 rfl) ?_
      obtain ⟨v67, q68, hf⟩ := ob hf
      refine rldM X hw (kr_X5_1 h1) q68 dX5_copyFrom_40 ?_
      obtain ⟨u69, q70, hf⟩ := ob hf
      refine cVv (As := [.ref (b + v67.toNatClampNeg)]) X hw (ctX1_copyFrom l E b (ldR_s q66).2.2 (ldR_s q68).2.2 q70) ⟨mw_451, mw_452, mw_453, mw_57, mw_454⟩ hd_X1_copyFrom ⟨Nat.le_of_ble_eq_true rfl, Nat.le_of_ble_eq_true rfl, rfl, rfl⟩ (kdk (ldR_s q66).2.2 (by decide)) (ce_X1 E _ _ _ _ (ldR_s q66).2.2) (show vwCl[1]? = some (RX1, TX1, 6) from rfl) rfl hl.1 rfl (Nat.le_of_ble_eq_true rfl) dX5_copyFrom_41 (fun H locs hw => ?_)
      obtain ⟨z71, ez71⟩ : ∃ y : Int32, y = x2 + 1 := ⟨_, rfl⟩
      replace hf := nmb hf ez71
      refine lv_iinc (v := z71) (lv' := [(2, .int z71), (0, .ref (b + o0)), (1, .ref (b + o1))]) hx hb dX5_copyFrom_44 hl (k := 2) rfl (by rw [ez71]; rfl) (by decide) rfl (fun ls hl => ?_)
      refine lv_goto (tgt := 21) hx hb dX5_copyFrom_47 (by decide) ?_
      exact ih z71 u69 hf H locs ls hw (lv_sub hl [1, 2, 0] rfl)
set_option maxHeartbeats 4000000 in
set_option maxRecDepth 100000 in
theorem ctX5_copyFrom (l : Launch) (E : EE) (b : Nat) {TC : Int64} {MM : Mem} {TM : Int64} {o0 : Nat} {o1 : Nat} {M : Mem} {res : Mem} (h0 : (kd o0).1 = 7) (h1 : (kd o1).1 = 7) (hf : gX5_copyFrom o0 o1 M = some res) : MetV l E b yX5_copyFrom (.code yX5_copyFrom cX5_copyFrom 3 none) rmX5_copyFrom [.ref (b + o0), .ref (b + o1)] M TC MM TM res TC MM TM := by
  refine Met.ofW (cc := cX5_copyFrom) (maxL := 3) (ret := none) (by decide) rfl ?_
  intro p e s m args below meth c s₁ B hml hv
  obtain ⟨rfl, hP, hK⟩ := hv
  have hx := B.exec
  have hb := B.bytes
  have X : CX E p s m _ c cX5_copyFrom 3 RX5 := ⟨hx, hb, hml, findClass_of_methodNamed B.named, fun w h => atoms_spec (ws := _ :: wt) B.pre w (List.mem_cons_of_mem _ h), hK⟩
  have hr := B.returns
  have hlk := B.notSynchronized
  have hw : WW E b M TC MM TM s s.heap [] := ⟨hP, va_S.rf⟩
  have hl := lv_entry ([.ref (b + o0), .ref (b + o1)]) (n := 3) (Nat.le_of_ble_eq_true rfl)
  rw [lg_entry_eq]
  generalize (lg_sl ([.ref (b + o0), .ref (b + o1)]) ++ List.replicate (3 - (lg_sl ([.ref (b + o0), .ref (b + o1)])).length) Slot.unset).toArray = ls at hl ⊢
  have hl : lv_has ls 3 [(0, .ref (b + o0)), (1, .ref (b + o1))] := hl
  obtain ⟨H, hH⟩ : ∃ H, H = s.heap := ⟨_, rfl⟩
  obtain ⟨locs, hL⟩ : ∃ L : List Loc, L = [] := ⟨_, rfl⟩
  rw [← hH, ← hL] at hw
  suffices hg : W p l e rmX5_copyFrom s m _ below meth c H locs 0 0 (MQ below (va_Qv (fun (_ : Unit) => True) (fun _ t => PW E b res TC MM TM t) (AA b)) _ s 0 0 (AA b)) (F0 m 0 ls []) by rw [hH, hL] at hg; exact hg
  clear hH hL
  rw [gX5_copyFrom] at hf
  refine lv_aload_n hx hb dX5_copyFrom_0 rfl (lv_at hl 0 rfl) ?_
  refine gt_X5 X hw 0 h0 rfl (by decide) mw_204 rfl dX5_copyFrom_1 ?_
  refine lv_aload_n hx hb dX5_copyFrom_4 rfl (lv_at hl 1 rfl) ?_
  refine gt_X5 X hw 0 h1 rfl (by decide) mw_204 rfl dX5_copyFrom_5 ?_
  obtain ⟨u61, q62, hf⟩ := ob hf
  refine cVv (As := [.ref (b + (o1 + 1))]) X hw (ctX1_copyFrom l E b (kr_X5_0 h0) (kr_X5_0 h1) q62) ⟨mw_451, mw_452, mw_453, mw_57, mw_454⟩ hd_X1_copyFrom ⟨Nat.le_of_ble_eq_true rfl, Nat.le_of_ble_eq_true rfl, rfl, rfl⟩ (kdk (kr_X5_0 h0) (by decide)) (ce_X1 E _ _ _ _ (kr_X5_0 h0)) (show vwCl[1]? = some (RX1, TX1, 6) from rfl) rfl hl.1 rfl (Nat.le_of_ble_eq_true rfl) dX5_copyFrom_8 (fun H locs hw => ?_)
  refine lv_aload_n hx hb dX5_copyFrom_11 rfl (lv_at hl 0 rfl) ?_
  refine lv_aload_n hx hb dX5_copyFrom_12 rfl (lv_at hl 1 rfl) ?_
  refine gt_X5 X hw 2 h1 rfl (by decide) mw_207 rfl dX5_copyFrom_13 ?_
  obtain ⟨M63, eM63, hf⟩ := ob hf
  refine pt_X5_2 X hw h0 mw_207 dX5_copyFrom_16 (fun H locs hw => ?_)
  rw [Option.some.inj eM63] at hw
  refine lv_iconst (v := 0) hx hb dX5_copyFrom_19 (by decide) ?_
  refine lv_istore_n (lv' := [(2, .int 0), (0, .ref (b + o0)), (1, .ref (b + o1))]) hx hb dX5_copyFrom_20 rfl hl (by decide) rfl (fun ls hl => ?_)
  exact tX5_copyFrom_21 X hr hlk h0 h1 FU 0 M63 hf H locs ls hw (lv_sub hl [1, 2, 0] rfl)

abbrev rmX3_grow : Room := { frames := 2, cells := 0, slots := 0, locals := 46 }
theorem hd_X3_grow : Hd yX3_grow RX3 4 := by decide +kernel
def gX3_grow_64 (o1 : Nat) (o2 : Nat)  : Nat → Int32 → Int32 → Int32 → Mem → Option (Mem)
  | 0, _, _, _, _ => none
  | n + 1, x3, x4, x5, M => if x4 ≤ x5 then (some (M)) else ((gX1_thoughtAhead o2 o1 x3 x5 M).bind fun u79 => (stA 32 M 188 ((M 185 5) + x5) u79).bind fun M81 => (some (x5 + 1)).bind fun z83 => (gX3_grow_64 o1 o2 n) x3 x4 z83 M81)
def gX3_grow_32 (o1 : Nat) (o2 : Nat)  : Nat → Int32 → Int32 → Int32 → Mem → Option (Mem)
  | 0, _, _, _, _ => none
  | n + 1, x3, x4, x5, M => if (M 185 5) ≤ x5 then (gX3_grow_64 o1 o2 FU x3 x4 0 M) else ((gX1_layerAt o2 x3 x5 M).bind fun u84 => (stA 32 M 188 x5 u84).bind fun M86 => (some (x5 + 1)).bind fun z88 => (gX3_grow_32 o1 o2 n) x3 x4 z88 M86)
def gX3_grow (o1 : Nat) (o2 : Nat) (x3 : Int32) (x4 : Int32) (M : Mem) : Option (Mem) := (some (us M 185 7 (M o1 4))).bind fun M72 => (ldA 5 (M72 (o2 + 1)) x3).bind fun v73 => (some (us M72 185 5 v73)).bind fun M75 => (some (us M75 185 6 ((M75 185 5) + x4))).bind fun M76 => gX3_grow_32 o1 o2 FU x3 x4 0 M76
set_option maxHeartbeats 4000000 in
set_option maxRecDepth 100000 in
theorem tX3_grow_64 {p : Program} {l : Launch} {e : Env} {s : State} {m : MethodId} {args : Array Value} {below : List Frame} {meth : Method} {c : Code} {E : EE} {b : Nat} {TC : Int64} {MM : Mem} {TM : Int64} {res : Mem} (X : CX E p s m args c cX3_grow 6 RX3) (hr : meth.sig.returnType = none) (hlk : meth.locks = false) {o1 : Nat} {o2 : Nat} (h1 : (kd o1).1 = 6) (h2 : (kd o2).1 = 3)  : ∀ (n : Nat) (x3 : Int32) (x4 : Int32) (x5 : Int32) (M : Mem), gX3_grow_64 o1 o2 n x3 x4 x5 M = some res → ∀ (H : Heap) (locs : List Loc) (ls : Array Slot), WW E b M TC MM TM s H locs → lv_has ls 6 [(0, .ref (b + 185)), (1, .ref (b + o1)), (2, .ref (b + o2)), (3, .int x3), (4, .int x4), (5, .int x5)] → W p l e rmX3_grow s m args below meth c H locs 0 0 (MQ below (va_Qv (fun (_ : Unit) => True) (fun _ t => PW E b res TC MM TM t) (AA b)) args s 0 0 (AA b)) (F0 m 64 ls []) := by
  have hx := X.1
  have hb := X.2.1
  intro n
  induction n with
  | zero =>
    intro x3 x4 x5 M hf
    cases (show (none : Option (Mem)) = some res from hf)
  | succ n ih =>
    intro x3 x4 x5 M hf H locs ls hw hl
    rw [gX3_grow_64] at hf
    refine lv_iload hx hb dX3_grow_64 (lv_at hl 5 rfl) ?_
    refine lv_iload hx hb dX3_grow_66 (lv_at hl 4 rfl) ?_
    refine lv_icmp_ge (tgt := 97) hx hb dX3_grow_68 (by decide) (fun c78 => ?_) (fun c78 => ?_)
    · replace hf := (if_pos c78).symm.trans hf
      replace hf := Option.some.inj hf
      subst hf
      exact eV X hw hr hlk dX3_grow_97
    · replace hf := (if_neg c78).symm.trans hf
      refine lv_aload_n hx hb dX3_grow_71 rfl (lv_at hl 0 rfl) ?_
      refine gt_X3 X hw 2 kk_185 rfl (by decide) mw_253 rfl dX3_grow_72 ?_
      refine lv_aload_n hx hb dX3_grow_75 rfl (lv_at hl 0 rfl) ?_
      refine gt_X3 X hw 5 kk_185 rfl (by decide) mw_256 rfl dX3_grow_76 ?_
      refine lv_iload hx hb dX3_grow_79 (lv_at hl 5 rfl) ?_
      refine lv_iadd hx hb dX3_grow_81 ?_
      refine lv_aload_n hx hb dX3_grow_82 rfl (lv_at hl 2 rfl) ?_
      refine lv_aload_n hx hb dX3_grow_83 rfl (lv_at hl 1 rfl) ?_
      refine lv_iload_n hx hb dX3_grow_84 rfl (lv_at hl 3 rfl) ?_
      refine lv_iload hx hb dX3_grow_85 (lv_at hl 5 rfl) ?_
      obtain ⟨u79, q80, hf⟩ := ob hf
      refine cVi (As := [.ref (b + o1), .int x3, .int x5]) X hw (ctX1_thoughtAhead l E b h2 h1 q80) ⟨mw_546, mw_461, mw_462, mw_57, mw_463⟩ hd_X1_thoughtAhead ⟨Nat.le_of_ble_eq_true rfl, Nat.le_of_ble_eq_true rfl, rfl, rfl⟩ (kdk h2 (by decide)) (ce_X1 E _ _ _ _ h2) (show vwCl[1]? = some (RX1, TX1, 6) from rfl) rfl hl.1 rfl (Nat.le_of_ble_eq_true rfl) dX3_grow_87 (fun H locs hw => ?_)
      obtain ⟨M81, q82, hf⟩ := ob hf
      refine astC X hw kdv_188 q82 dX3_grow_90 (fun H locs hw => ?_)
      obtain ⟨z83, ez83⟩ : ∃ y : Int32, y = x5 + 1 := ⟨_, rfl⟩
      replace hf := nmb hf ez83
      refine lv_iinc (v := z83) (lv' := [(5, .int z83), (0, .ref (b + 185)), (1, .ref (b + o1)), (2, .ref (b + o2)), (3, .int x3), (4, .int x4)]) hx hb dX3_grow_91 hl (k := 5) rfl (by rw [ez83]; rfl) (by decide) rfl (fun ls hl => ?_)
      refine lv_goto (tgt := 64) hx hb dX3_grow_94 (by decide) ?_
      exact ih x3 x4 z83 M81 hf H locs ls hw (lv_sub hl [1, 2, 3, 4, 5, 0] rfl)
set_option maxHeartbeats 4000000 in
set_option maxRecDepth 100000 in
theorem tX3_grow_32 {p : Program} {l : Launch} {e : Env} {s : State} {m : MethodId} {args : Array Value} {below : List Frame} {meth : Method} {c : Code} {E : EE} {b : Nat} {TC : Int64} {MM : Mem} {TM : Int64} {res : Mem} (X : CX E p s m args c cX3_grow 6 RX3) (hr : meth.sig.returnType = none) (hlk : meth.locks = false) {o1 : Nat} {o2 : Nat} (h1 : (kd o1).1 = 6) (h2 : (kd o2).1 = 3)  : ∀ (n : Nat) (x3 : Int32) (x4 : Int32) (x5 : Int32) (M : Mem), gX3_grow_32 o1 o2 n x3 x4 x5 M = some res → ∀ (H : Heap) (locs : List Loc) (ls : Array Slot), WW E b M TC MM TM s H locs → lv_has ls 6 [(0, .ref (b + 185)), (1, .ref (b + o1)), (2, .ref (b + o2)), (3, .int x3), (4, .int x4), (5, .int x5)] → W p l e rmX3_grow s m args below meth c H locs 0 0 (MQ below (va_Qv (fun (_ : Unit) => True) (fun _ t => PW E b res TC MM TM t) (AA b)) args s 0 0 (AA b)) (F0 m 32 ls []) := by
  have hx := X.1
  have hb := X.2.1
  intro n
  induction n with
  | zero =>
    intro x3 x4 x5 M hf
    cases (show (none : Option (Mem)) = some res from hf)
  | succ n ih =>
    intro x3 x4 x5 M hf H locs ls hw hl
    rw [gX3_grow_32] at hf
    refine lv_iload hx hb dX3_grow_32 (lv_at hl 5 rfl) ?_
    refine lv_aload_n hx hb dX3_grow_34 rfl (lv_at hl 0 rfl) ?_
    refine gt_X3 X hw 5 kk_185 rfl (by decide) mw_256 rfl dX3_grow_35 ?_
    refine lv_icmp_ge (tgt := 61) hx hb dX3_grow_38 (by decide) (fun c77 => ?_) (fun c77 => ?_)
    · replace hf := (if_pos c77).symm.trans hf
      refine lv_iconst (v := 0) hx hb dX3_grow_61 (by decide) ?_
      refine lv_istore (lv' := [(5, .int 0), (0, .ref (b + 185)), (1, .ref (b + o1)), (2, .ref (b + o2)), (3, .int x3), (4, .int x4)]) hx hb dX3_grow_62 hl (by decide) rfl (fun ls hl => ?_)
      exact tX3_grow_64 X hr hlk h1 h2 FU x3 x4 0 M hf H locs ls hw (lv_sub hl [1, 2, 3, 4, 5, 0] rfl)
    · replace hf := (if_neg c77).symm.trans hf
      refine lv_aload_n hx hb dX3_grow_41 rfl (lv_at hl 0 rfl) ?_
      refine gt_X3 X hw 2 kk_185 rfl (by decide) mw_253 rfl dX3_grow_42 ?_
      refine lv_iload hx hb dX3_grow_45 (lv_at hl 5 rfl) ?_
      refine lv_aload_n hx hb dX3_grow_47 rfl (lv_at hl 2 rfl) ?_
      refine lv_iload_n hx hb dX3_grow_48 rfl (lv_at hl 3 rfl) ?_
      refine lv_iload hx hb dX3_grow_49 (lv_at hl 5 rfl) ?_
      obtain ⟨u84, q85, hf⟩ := ob hf
      refine cVi (As := [.int x3, .int x5]) X hw (ctX1_layerAt l E b h2 q85) ⟨mw_545, mw_413, mw_414, mw_57, mw_415⟩ hd_X1_layerAt ⟨Nat.le_of_ble_eq_true rfl, Nat.le_of_ble_eq_true rfl, rfl, rfl⟩ (kdk h2 (by decide)) (ce_X1 E _ _ _ _ h2) (show vwCl[1]? = some (RX1, TX1, 6) from rfl) rfl hl.1 rfl (Nat.le_of_ble_eq_true rfl) dX3_grow_51 (fun H locs hw => ?_)
      obtain ⟨M86, q87, hf⟩ := ob hf
      refine astC X hw kdv_188 q87 dX3_grow_54 (fun H locs hw => ?_)
      obtain ⟨z88, ez88⟩ : ∃ y : Int32, y = x5 + 1 := ⟨_, rfl⟩
      replace hf := nmb hf ez88
      refine lv_iinc (v := z88) (lv' := [(5, .int z88), (0, .ref (b + 185)), (1, .ref (b + o1)), (2, .ref (b + o2)), (3, .int x3), (4, .int x4)]) hx hb dX3_grow_55 hl (k := 5) rfl (by rw [ez88]; rfl) (by decide) rfl (fun ls hl => ?_)
      refine lv_goto (tgt := 32) hx hb dX3_grow_58 (by decide) ?_
      exact ih x3 x4 z88 M86 hf H locs ls hw (lv_sub hl [1, 2, 3, 4, 5, 0] rfl)
set_option maxHeartbeats 4000000 in
set_option maxRecDepth 100000 in
theorem ctX3_grow (l : Launch) (E : EE) (b : Nat) {TC : Int64} {MM : Mem} {TM : Int64} {o1 : Nat} {o2 : Nat} {x3 : Int32} {x4 : Int32} {M : Mem} {res : Mem} (h1 : (kd o1).1 = 6) (h2 : (kd o2).1 = 3) (hf : gX3_grow o1 o2 x3 x4 M = some res) : MetV l E b yX3_grow (.code yX3_grow cX3_grow 6 none) rmX3_grow [.ref (b + 185), .ref (b + o1), .ref (b + o2), .int x3, .int x4] M TC MM TM res TC MM TM := by
  refine Met.ofW (cc := cX3_grow) (maxL := 6) (ret := none) (by decide) rfl ?_
  intro p e s m args below meth c s₁ B hml hv
  obtain ⟨rfl, hP, hK⟩ := hv
  have hx := B.exec
  have hb := B.bytes
  have X : CX E p s m _ c cX3_grow 6 RX3 := ⟨hx, hb, hml, findClass_of_methodNamed B.named, fun w h => atoms_spec (ws := _ :: wt) B.pre w (List.mem_cons_of_mem _ h), hK⟩
  have hr := B.returns
  have hlk := B.notSynchronized
  have hw : WW E b M TC MM TM s s.heap [] := ⟨hP, va_S.rf⟩
  have hl := lv_entry ([.ref (b + 185), .ref (b + o1), .ref (b + o2), .int x3, .int x4]) (n := 6) (Nat.le_of_ble_eq_true rfl)
  rw [lg_entry_eq]
  generalize (lg_sl ([.ref (b + 185), .ref (b + o1), .ref (b + o2), .int x3, .int x4]) ++ List.replicate (6 - (lg_sl ([.ref (b + 185), .ref (b + o1), .ref (b + o2), .int x3, .int x4])).length) Slot.unset).toArray = ls at hl ⊢
  have hl : lv_has ls 6 [(0, .ref (b + 185)), (1, .ref (b + o1)), (2, .ref (b + o2)), (3, .int x3), (4, .int x4)] := hl
  obtain ⟨H, hH⟩ : ∃ H, H = s.heap := ⟨_, rfl⟩
  obtain ⟨locs, hL⟩ : ∃ L : List Loc, L = [] := ⟨_, rfl⟩
  rw [← hH, ← hL] at hw
  suffices hg : W p l e rmX3_grow s m _ below meth c H locs 0 0 (MQ below (va_Qv (fun (_ : Unit) => True) (fun _ t => PW E b res TC MM TM t) (AA b)) _ s 0 0 (AA b)) (F0 m 0 ls []) by rw [hH, hL] at hg; exact hg
  clear hH hL
  rw [gX3_grow] at hf
  refine lv_aload_n hx hb dX3_grow_0 rfl (lv_at hl 0 rfl) ?_
  refine lv_aload_n hx hb dX3_grow_1 rfl (lv_at hl 1 rfl) ?_
  refine gt_X6 X hw 4 h1 rfl (by decide) mw_116 rfl dX3_grow_2 ?_
  obtain ⟨M72, eM72, hf⟩ := ob hf
  refine pt_X3_7 X hw kk_185 mw_258 dX3_grow_5 (fun H locs hw => ?_)
  rw [Option.some.inj eM72] at hw
  refine lv_aload_n hx hb dX3_grow_8 rfl (lv_at hl 0 rfl) ?_
  refine lv_aload_n hx hb dX3_grow_9 rfl (lv_at hl 2 rfl) ?_
  refine gt_X1 X hw 0 h2 rfl (by decide) mw_179 rfl dX3_grow_10 ?_
  refine lv_iload_n hx hb dX3_grow_13 rfl (lv_at hl 3 rfl) ?_
  obtain ⟨v73, q74, hf⟩ := ob hf
  refine aldC X hw (kr_X1_0 h2) q74 dX3_grow_14 ?_
  obtain ⟨M75, eM75, hf⟩ := ob hf
  refine pt_X3_5 X hw kk_185 mw_256 dX3_grow_15 (fun H locs hw => ?_)
  rw [Option.some.inj eM75] at hw
  refine lv_aload_n hx hb dX3_grow_18 rfl (lv_at hl 0 rfl) ?_
  refine lv_aload_n hx hb dX3_grow_19 rfl (lv_at hl 0 rfl) ?_
  refine gt_X3 X hw 5 kk_185 rfl (by decide) mw_256 rfl dX3_grow_20 ?_
  refine lv_iload hx hb dX3_grow_23 (lv_at hl 4 rfl) ?_
  refine lv_iadd hx hb dX3_grow_25 ?_
  obtain ⟨M76, eM76, hf⟩ := ob hf
  refine pt_X3_6 X hw kk_185 mw_257 dX3_grow_26 (fun H locs hw => ?_)
  rw [Option.some.inj eM76] at hw
  refine lv_iconst (v := 0) hx hb dX3_grow_29 (by decide) ?_
  refine lv_istore (lv' := [(5, .int 0), (0, .ref (b + 185)), (1, .ref (b + o1)), (2, .ref (b + o2)), (3, .int x3), (4, .int x4)]) hx hb dX3_grow_30 hl (by decide) rfl (fun ls hl => ?_)
  exact tX3_grow_32 X hr hlk h1 h2 FU x3 x4 0 M76 hf H locs ls hw (lv_sub hl [1, 2, 3, 4, 5, 0] rfl)

abbrev rmX3_fewestCuts : Room := { frames := 1, cells := 0, slots := 0, locals := 21 }
theorem hd_X3_fewestCuts : Hd yX3_fewestCuts RX3 0 := by decide +kernel
def gX3_fewestCuts_42   (y0 : Int32) (M : Mem) : Option (Int32) := some (y0)
def gX3_fewestCuts_6   : Nat → Int32 → Int32 → Mem → Option (Int32)
  | 0, _, _, _ => none
  | n + 1, x1, x2, M => if 12 < x2 then (if 1000 ≤ x1 then (gX3_fewestCuts_42 ((-9)) M) else (gX3_fewestCuts_42 x1 M)) else ((gA 13 (M 185 3)).bind fun z92 => (ldA 13 (M z92.toNatClampNeg) x2).bind fun v93 => (some (mn x1 v93)).bind fun z95 => (some (x2 + 1)).bind fun z96 => (gX3_fewestCuts_6 n) z95 z96 M)
def gX3_fewestCuts (M : Mem) : Option (Int32) := gX3_fewestCuts_6 FU 1000 0 M
set_option maxHeartbeats 4000000 in
set_option maxRecDepth 100000 in
theorem tX3_fewestCuts_42 {p : Program} {l : Launch} {e : Env} {s : State} {m : MethodId} {args : Array Value} {below : List Frame} {meth : Method} {c : Code} {E : EE} {b : Nat} {TC : Int64} {MM : Mem} {TM : Int64} {res : Int32} (X : CX E p s m args c cX3_fewestCuts 3 RX3) (hr : meth.sig.returnType = (some .int)) (hlk : meth.locks = false)    : ∀ (y0 : Int32) (M : Mem), gX3_fewestCuts_42 y0 M = some res → ∀ (H : Heap) (locs : List Loc) (ls : Array Slot), WW E b M TC MM TM s H locs → lv_has ls 3 [] → W p l e rmX3_fewestCuts s m args below meth c H locs 0 0 (MQ below (va_Qi (fun x (_ : Unit) => x = res) (fun _ t => PW E b M TC MM TM t) (AA b)) args s 0 0 (AA b)) (F0 m 42 ls [.int y0]) := by
  have hx := X.1
  have hb := X.2.1
  intro y0 M hf H locs ls hw hl
  rw [gX3_fewestCuts_42] at hf
  replace hf := Option.some.inj hf
  subst hf
  exact eI X hw hr hlk dX3_fewestCuts_42
set_option maxHeartbeats 4000000 in
set_option maxRecDepth 100000 in
theorem tX3_fewestCuts_6 {p : Program} {l : Launch} {e : Env} {s : State} {m : MethodId} {args : Array Value} {below : List Frame} {meth : Method} {c : Code} {E : EE} {b : Nat} {TC : Int64} {MM : Mem} {TM : Int64} {res : Int32} (X : CX E p s m args c cX3_fewestCuts 3 RX3) (hr : meth.sig.returnType = (some .int)) (hlk : meth.locks = false)    : ∀ (n : Nat) (x1 : Int32) (x2 : Int32) (M : Mem), gX3_fewestCuts_6 n x1 x2 M = some res → ∀ (H : Heap) (locs : List Loc) (ls : Array Slot), WW E b M TC MM TM s H locs → lv_has ls 3 [(0, .ref (b + 185)), (1, .int x1), (2, .int x2)] → W p l e rmX3_fewestCuts s m args below meth c H locs 0 0 (MQ below (va_Qi (fun x (_ : Unit) => x = res) (fun _ t => PW E b M TC MM TM t) (AA b)) args s 0 0 (AA b)) (F0 m 6 ls []) := by
  have hx := X.1
  have hb := X.2.1
  intro n
  induction n with
  | zero =>
    intro x1 x2 M hf
    cases (show (none : Option (Int32)) = some res from hf)
  | succ n ih =>
    intro x1 x2 M hf H locs ls hw hl
    rw [gX3_fewestCuts_6] at hf
    refine lv_iload_n hx hb dX3_fewestCuts_6 rfl (lv_at hl 2 rfl) ?_
    refine lv_bipush (v := 12) hx hb dX3_fewestCuts_7 (by decide) ?_
    refine lv_icmp_gt (tgt := 29) hx hb dX3_fewestCuts_9 (by decide) (fun c89 => ?_) (fun c89 => ?_)
    · replace hf := (if_pos c89).symm.trans hf
      refine lv_iload_n hx hb dX3_fewestCuts_29 rfl (lv_at hl 1 rfl) ?_
      refine lv_sipush (v := 1000) hx hb dX3_fewestCuts_30 (by decide) ?_
      refine lv_icmp_ge (tgt := 40) hx hb dX3_fewestCuts_33 (by decide) (fun c90 => ?_) (fun c90 => ?_)
      · replace hf := (if_pos c90).symm.trans hf
        refine lv_bipush (v := (-9)) hx hb dX3_fewestCuts_40 (by decide) ?_
        exact tX3_fewestCuts_42 X hr hlk ((-9)) M hf H locs ls hw (lv_sub hl [] rfl)
      · replace hf := (if_neg c90).symm.trans hf
        refine lv_iload_n hx hb dX3_fewestCuts_36 rfl (lv_at hl 1 rfl) ?_
        refine lv_goto (tgt := 42) hx hb dX3_fewestCuts_37 (by decide) ?_
        exact tX3_fewestCuts_42 X hr hlk x1 M hf H locs ls hw (lv_sub hl [] rfl)
    · replace hf := (if_neg c89).symm.trans hf
      refine lv_iload_n hx hb dX3_fewestCuts_12 rfl (lv_at hl 1 rfl) ?_
      refine lv_aload_n hx hb dX3_fewestCuts_13 rfl (lv_at hl 0 rfl) ?_
      refine gt_X3 X hw 3 kk_185 rfl (by decide) mw_254 rfl dX3_fewestCuts_14 ?_
      obtain ⟨z92, q91, hf⟩ := ob hf
      rw [gA_e q91]
      refine lv_iload_n hx hb dX3_fewestCuts_17 rfl (lv_at hl 2 rfl) ?_
      obtain ⟨v93, q94, hf⟩ := ob hf
      refine aldC X hw (gA_t q91) q94 dX3_fewestCuts_18 ?_
      refine va_mmin hx hb (by rw [X.2.2.1]; exact hl.1.symm) X.2.2.2.1 (X.2.2.2.2.1 _ mw_556) (X.2.2.2.2.1 _ mw_354) (X.2.2.2.2.1 _ mw_62) (X.2.2.2.2.1 _ code_min) (Nat.le_of_ble_eq_true rfl) (Nat.le_of_ble_eq_true rfl) (Nat.zero_le _) (Nat.zero_le _) dX3_fewestCuts_19 ?_
      refine lv_topi (fun z95 ez95 => ?_)
      replace hf := nmb hf ez95
      refine lv_istore_n (lv' := [(1, .int z95), (0, .ref (b + 185)), (2, .int x2)]) hx hb dX3_fewestCuts_22 rfl hl (by decide) rfl (fun ls hl => ?_)
      obtain ⟨z96, ez96⟩ : ∃ y : Int32, y = x2 + 1 := ⟨_, rfl⟩
      replace hf := nmb hf ez96
      refine lv_iinc (v := z96) (lv' := [(2, .int z96), (1, .int z95), (0, .ref (b + 185))]) hx hb dX3_fewestCuts_23 hl (k := 2) rfl (by rw [ez96]; rfl) (by decide) rfl (fun ls hl => ?_)
      refine lv_goto (tgt := 6) hx hb dX3_fewestCuts_26 (by decide) ?_
      exact ih z95 z96 M hf H locs ls hw (lv_sub hl [2, 1, 0] rfl)
set_option maxHeartbeats 4000000 in
set_option maxRecDepth 100000 in
theorem ctX3_fewestCuts (l : Launch) (E : EE) (b : Nat) {TC : Int64} {MM : Mem} {TM : Int64} {M : Mem} {res : Int32}  (hf : gX3_fewestCuts M = some res) : MetI l E b yX3_fewestCuts (.code yX3_fewestCuts cX3_fewestCuts 3 (some .int)) rmX3_fewestCuts [.ref (b + 185)] M TC MM TM res M TC MM TM := by
  refine Met.ofW (cc := cX3_fewestCuts) (maxL := 3) (ret := (some .int)) (by decide) rfl ?_
  intro p e s m args below meth c s₁ B hml hv
  obtain ⟨rfl, hP, hK⟩ := hv
  have hx := B.exec
  have hb := B.bytes
  have X : CX E p s m _ c cX3_fewestCuts 3 RX3 := ⟨hx, hb, hml, findClass_of_methodNamed B.named, fun w h => atoms_spec (ws := _ :: wt) B.pre w (List.mem_cons_of_mem _ h), hK⟩
  have hr := B.returns
  have hlk := B.notSynchronized
  have hw : WW E b M TC MM TM s s.heap [] := ⟨hP, va_S.rf⟩
  have hl := lv_entry ([.ref (b + 185)]) (n := 3) (Nat.le_of_ble_eq_true rfl)
  rw [lg_entry_eq]
  generalize (lg_sl ([.ref (b + 185)]) ++ List.replicate (3 - (lg_sl ([.ref (b + 185)])).length) Slot.unset).toArray = ls at hl ⊢
  have hl : lv_has ls 3 [(0, .ref (b + 185))] := hl
  obtain ⟨H, hH⟩ : ∃ H, H = s.heap := ⟨_, rfl⟩
  obtain ⟨locs, hL⟩ : ∃ L : List Loc, L = [] := ⟨_, rfl⟩
  rw [← hH, ← hL] at hw
  suffices hg : W p l e rmX3_fewestCuts s m _ below meth c H locs 0 0 (MQ below (va_Qi (fun x (_ : Unit) => x = res) (fun _ t => PW E b M TC MM TM t) (AA b)) _ s 0 0 (AA b)) (F0 m 0 ls []) by rw [hH, hL] at hg; exact hg
  clear hH hL
  rw [gX3_fewestCuts] at hf
  refine lv_sipush (v := 1000) hx hb dX3_fewestCuts_0 (by decide) ?_
  refine lv_istore_n (lv' := [(1, .int 1000), (0, .ref (b + 185))]) hx hb dX3_fewestCuts_3 rfl hl (by decide) rfl (fun ls hl => ?_)
  refine lv_iconst (v := 0) hx hb dX3_fewestCuts_4 (by decide) ?_
  refine lv_istore_n (lv' := [(2, .int 0), (1, .int 1000), (0, .ref (b + 185))]) hx hb dX3_fewestCuts_5 rfl hl (by decide) rfl (fun ls hl => ?_)
  exact tX3_fewestCuts_6 X hr hlk FU 1000 0 M hf H locs ls hw (lv_sub hl [2, 1, 0] rfl)

abbrev rmX3_spend : Room := { frames := 1, cells := 0, slots := 0, locals := 21 }
theorem hd_X3_spend : Hd yX3_spend RX3 4 := by decide +kernel
def gX3_spend_100  (k24 : Int32 → Int32 → Int32 → Int32 → Int32 → Int32 → Mem → Option (Mem)) (x2 : Int32) (x3 : Int32) (x4 : Int32) (x5 : Int32) (x6 : Int32) (x7 : Int32) (M : Mem) : Option (Mem) := (some (x7 + (-1))).bind fun z102 => k24 x2 x3 x4 x5 x6 z102 M
def gX3_spend_72  (k24 : Int32 → Int32 → Int32 → Int32 → Int32 → Int32 → Mem → Option (Mem)) (x2 : Int32) (x3 : Int32) (x4 : Int32) (x5 : Int32) (x6 : Int32) (x7 : Int32) (y0 : Int32) (M : Mem) : Option (Mem) := (gA 13 (M 185 4)).bind fun z105 => (gA 13 (M 185 4)).bind fun z107 => (ldA 13 (M z107.toNatClampNeg) x7).bind fun v108 => (gA 13 (M 185 3)).bind fun z111 => (ldA 13 (M z111.toNatClampNeg) x2).bind fun v112 => (some (mn v108 (v112 + y0))).bind fun z114 => (stA 13 M z105.toNatClampNeg x7 z114).bind fun M115 => gX3_spend_100 k24 x2 x3 x4 x5 x6 x7 M115
def gX3_spend_53  (k24 : Int32 → Int32 → Int32 → Int32 → Int32 → Int32 → Mem → Option (Mem)) (x2 : Int32) (x3 : Int32) (x4 : Int32) (x5 : Int32) (x6 : Int32) (x7 : Int32) (M : Mem) : Option (Mem) := if x4 < x7 then (gX3_spend_100 k24 x2 x3 x4 x5 x6 x7 M) else (if x5 ≤ x7 then (gX3_spend_72 k24 x2 x3 x4 x5 x6 x7 0 M) else (gX3_spend_72 k24 x2 x3 x4 x5 x6 x7 1 M))
def gX3_spend_24   : Nat → Int32 → Int32 → Int32 → Int32 → Int32 → Int32 → Mem → Option (Mem)
  | 0, _, _, _, _, _, _, _ => none
  | n + 1, x2, x3, x4, x5, x6, x7, M => if x7 < 0 then (some (M)) else (if x5 ≤ x7 then (gX3_spend_53 (gX3_spend_24 n) x2 x3 x4 x5 x6 x7 M) else ((ldA 32 (M 188) ((x6 - x7) - 1)).bind fun v117 => if v117 = x3 then (some (M)) else (gX3_spend_53 (gX3_spend_24 n) x2 x3 x4 x5 x6 x7 M)))
def gX3_spend (x1 : Int32) (x2 : Int32) (x3 : Int32) (x4 : Int32) (M : Mem) : Option (Mem) := (some (mn (x2 + 1) (M 185 7))).bind fun z97 => (some ((M 185 5) + x1)).bind fun z98 => gX3_spend_24 FU x2 x3 x4 z97 z98 z97 M
set_option maxHeartbeats 4000000 in
set_option maxRecDepth 100000 in
theorem tX3_spend_100 {p : Program} {l : Launch} {e : Env} {s : State} {m : MethodId} {args : Array Value} {below : List Frame} {meth : Method} {c : Code} {E : EE} {b : Nat} {TC : Int64} {MM : Mem} {TM : Int64} {res : Mem} (X : CX E p s m args c cX3_spend 9 RX3) (hr : meth.sig.returnType = none) (hlk : meth.locks = false)   {k24 : Int32 → Int32 → Int32 → Int32 → Int32 → Int32 → Mem → Option (Mem)} (hk24 : ∀ (x2 : Int32) (x3 : Int32) (x4 : Int32) (x5 : Int32) (x6 : Int32) (x7 : Int32) (M : Mem), k24 x2 x3 x4 x5 x6 x7 M = some res → ∀ (H : Heap) (locs : List Loc) (ls : Array Slot), WW E b M TC MM TM s H locs → lv_has ls 9 [(0, .ref (b + 185)), (2, .int x2), (3, .int x3), (4, .int x4), (5, .int x5), (6, .int x6), (7, .int x7)] → W p l e rmX3_spend s m args below meth c H locs 0 0 (MQ below (va_Qv (fun (_ : Unit) => True) (fun _ t => PW E b res TC MM TM t) (AA b)) args s 0 0 (AA b)) (F0 m 24 ls [])) : ∀ (x2 : Int32) (x3 : Int32) (x4 : Int32) (x5 : Int32) (x6 : Int32) (x7 : Int32) (M : Mem), gX3_spend_100 k24 x2 x3 x4 x5 x6 x7 M = some res → ∀ (H : Heap) (locs : List Loc) (ls : Array Slot), WW E b M TC MM TM s H locs → lv_has ls 9 [(0, .ref (b + 185)), (2, .int x2), (3, .int x3), (4, .int x4), (5, .int x5), (6, .int x6), (7, .int x7)] → W p l e rmX3_spend s m args below meth c H locs 0 0 (MQ below (va_Qv (fun (_ : Unit) => True) (fun _ t => PW E b res TC MM TM t) (AA b)) args s 0 0 (AA b)) (F0 m 100 ls []) := by
  have hx := X.1
  have hb := X.2.1
  intro x2 x3 x4 x5 x6 x7 M hf H locs ls hw hl
  rw [gX3_spend_100] at hf
  obtain ⟨z102, ez102⟩ : ∃ y : Int32, y = x7 + (-1) := ⟨_, rfl⟩
  replace hf := nmb hf ez102
  refine lv_iinc (v := z102) (lv' := [(7, .int z102), (0, .ref (b + 185)), (2, .int x2), (3, .int x3), (4, .int x4), (5, .int x5), (6, .int x6)]) hx hb dX3_spend_100 hl (k := 6) rfl (by rw [ez102]; rfl) (by decide) rfl (fun ls hl => ?_)
  refine lv_goto (tgt := 24) hx hb dX3_spend_103 (by decide) ?_
  exact hk24 x2 x3 x4 x5 x6 z102 M hf H locs ls hw (lv_sub hl [1, 2, 3, 4, 5, 6, 0] rfl)
set_option maxHeartbeats 4000000 in
set_option maxRecDepth 100000 in
theorem tX3_spend_72 {p : Program} {l : Launch} {e : Env} {s : State} {m : MethodId} {args : Array Value} {below : List Frame} {meth : Method} {c : Code} {E : EE} {b : Nat} {TC : Int64} {MM : Mem} {TM : Int64} {res : Mem} (X : CX E p s m args c cX3_spend 9 RX3) (hr : meth.sig.returnType = none) (hlk : meth.locks = false)   {k24 : Int32 → Int32 → Int32 → Int32 → Int32 → Int32 → Mem → Option (Mem)} (hk24 : ∀ (x2 : Int32) (x3 : Int32) (x4 : Int32) (x5 : Int32) (x6 : Int32) (x7 : Int32) (M : Mem), k24 x2 x3 x4 x5 x6 x7 M = some res → ∀ (H : Heap) (locs : List Loc) (ls : Array Slot), WW E b M TC MM TM s H locs → lv_has ls 9 [(0, .ref (b + 185)), (2, .int x2), (3, .int x3), (4, .int x4), (5, .int x5), (6, .int x6), (7, .int x7)] → W p l e rmX3_spend s m args below meth c H locs 0 0 (MQ below (va_Qv (fun (_ : Unit) => True) (fun _ t => PW E b res TC MM TM t) (AA b)) args s 0 0 (AA b)) (F0 m 24 ls [])) : ∀ (x2 : Int32) (x3 : Int32) (x4 : Int32) (x5 : Int32) (x6 : Int32) (x7 : Int32) (y0 : Int32) (M : Mem), gX3_spend_72 k24 x2 x3 x4 x5 x6 x7 y0 M = some res → ∀ (H : Heap) (locs : List Loc) (ls : Array Slot), WW E b M TC MM TM s H locs → lv_has ls 9 [(0, .ref (b + 185)), (2, .int x2), (3, .int x3), (4, .int x4), (5, .int x5), (6, .int x6), (7, .int x7)] → W p l e rmX3_spend s m args below meth c H locs 0 0 (MQ below (va_Qv (fun (_ : Unit) => True) (fun _ t => PW E b res TC MM TM t) (AA b)) args s 0 0 (AA b)) (F0 m 72 ls [.int y0]) := by
  have hx := X.1
  have hb := X.2.1
  intro x2 x3 x4 x5 x6 x7 y0 M hf H locs ls hw hl
  rw [gX3_spend_72] at hf
  refine lv_istore (lv' := [(8, .int y0), (0, .ref (b + 185)), (2, .int x2), (3, .int x3), (4, .int x4), (5, .int x5), (6, .int x6), (7, .int x7)]) hx hb dX3_spend_72 hl (by decide) rfl (fun ls hl => ?_)
  refine lv_aload_n hx hb dX3_spend_74 rfl (lv_at hl 1 rfl) ?_
  refine gt_X3 X hw 4 kk_185 rfl (by decide) mw_255 rfl dX3_spend_75 ?_
  obtain ⟨z105, q104, hf⟩ := ob hf
  rw [gA_e q104]
  refine lv_iload hx hb dX3_spend_78 (lv_at hl 7 rfl) ?_
  refine lv_aload_n hx hb dX3_spend_80 rfl (lv_at hl 1 rfl) ?_
  refine gt_X3 X hw 4 kk_185 rfl (by decide) mw_255 rfl dX3_spend_81 ?_
  obtain ⟨z107, q106, hf⟩ := ob hf
  rw [gA_e q106]
  refine lv_iload hx hb dX3_spend_84 (lv_at hl 7 rfl) ?_
  obtain ⟨v108, q109, hf⟩ := ob hf
  refine aldC X hw (gA_t q106) q109 dX3_spend_86 ?_
  refine lv_aload_n hx hb dX3_spend_87 rfl (lv_at hl 1 rfl) ?_
  refine gt_X3 X hw 3 kk_185 rfl (by decide) mw_254 rfl dX3_spend_88 ?_
  obtain ⟨z111, q110, hf⟩ := ob hf
  rw [gA_e q110]
  refine lv_iload_n hx hb dX3_spend_91 rfl (lv_at hl 2 rfl) ?_
  obtain ⟨v112, q113, hf⟩ := ob hf
  refine aldC X hw (gA_t q110) q113 dX3_spend_92 ?_
  refine lv_iload hx hb dX3_spend_93 (lv_at hl 0 rfl) ?_
  refine lv_iadd hx hb dX3_spend_95 ?_
  refine va_mmin hx hb (by rw [X.2.2.1]; exact hl.1.symm) X.2.2.2.1 (X.2.2.2.2.1 _ mw_556) (X.2.2.2.2.1 _ mw_354) (X.2.2.2.2.1 _ mw_62) (X.2.2.2.2.1 _ code_min) (Nat.le_of_ble_eq_true rfl) (Nat.le_of_ble_eq_true rfl) (Nat.zero_le _) (Nat.zero_le _) dX3_spend_96 ?_
  refine lv_topi (fun z114 ez114 => ?_)
  replace hf := nmb hf ez114
  obtain ⟨M115, q116, hf⟩ := ob hf
  refine astC X hw (gA_t q104) q116 dX3_spend_99 (fun H locs hw => ?_)
  exact tX3_spend_100 X hr hlk hk24 x2 x3 x4 x5 x6 x7 M115 hf H locs ls hw (lv_sub hl [1, 2, 3, 4, 5, 6, 7] rfl)
set_option maxHeartbeats 4000000 in
set_option maxRecDepth 100000 in
theorem tX3_spend_53 {p : Program} {l : Launch} {e : Env} {s : State} {m : MethodId} {args : Array Value} {below : List Frame} {meth : Method} {c : Code} {E : EE} {b : Nat} {TC : Int64} {MM : Mem} {TM : Int64} {res : Mem} (X : CX E p s m args c cX3_spend 9 RX3) (hr : meth.sig.returnType = none) (hlk : meth.locks = false)   {k24 : Int32 → Int32 → Int32 → Int32 → Int32 → Int32 → Mem → Option (Mem)} (hk24 : ∀ (x2 : Int32) (x3 : Int32) (x4 : Int32) (x5 : Int32) (x6 : Int32) (x7 : Int32) (M : Mem), k24 x2 x3 x4 x5 x6 x7 M = some res → ∀ (H : Heap) (locs : List Loc) (ls : Array Slot), WW E b M TC MM TM s H locs → lv_has ls 9 [(0, .ref (b + 185)), (2, .int x2), (3, .int x3), (4, .int x4), (5, .int x5), (6, .int x6), (7, .int x7)] → W p l e rmX3_spend s m args below meth c H locs 0 0 (MQ below (va_Qv (fun (_ : Unit) => True) (fun _ t => PW E b res TC MM TM t) (AA b)) args s 0 0 (AA b)) (F0 m 24 ls [])) : ∀ (x2 : Int32) (x3 : Int32) (x4 : Int32) (x5 : Int32) (x6 : Int32) (x7 : Int32) (M : Mem), gX3_spend_53 k24 x2 x3 x4 x5 x6 x7 M = some res → ∀ (H : Heap) (locs : List Loc) (ls : Array Slot), WW E b M TC MM TM s H locs → lv_has ls 9 [(0, .ref (b + 185)), (2, .int x2), (3, .int x3), (4, .int x4), (5, .int x5), (6, .int x6), (7, .int x7)] → W p l e rmX3_spend s m args below meth c H locs 0 0 (MQ below (va_Qv (fun (_ : Unit) => True) (fun _ t => PW E b res TC MM TM t) (AA b)) args s 0 0 (AA b)) (F0 m 53 ls []) := by
  have hx := X.1
  have hb := X.2.1
  intro x2 x3 x4 x5 x6 x7 M hf H locs ls hw hl
  rw [gX3_spend_53] at hf
  refine lv_iload hx hb dX3_spend_53 (lv_at hl 6 rfl) ?_
  refine lv_iload hx hb dX3_spend_55 (lv_at hl 3 rfl) ?_
  refine lv_icmp_gt (tgt := 100) hx hb dX3_spend_57 (by decide) (fun c101 => ?_) (fun c101 => ?_)
  · replace hf := (if_pos c101).symm.trans hf
    exact tX3_spend_100 X hr hlk hk24 x2 x3 x4 x5 x6 x7 M hf H locs ls hw (lv_sub hl [0, 1, 2, 3, 4, 5, 6] rfl)
  · replace hf := (if_neg c101).symm.trans hf
    refine lv_iload hx hb dX3_spend_60 (lv_at hl 6 rfl) ?_
    refine lv_iload hx hb dX3_spend_62 (lv_at hl 4 rfl) ?_
    refine lv_icmp_ge (tgt := 71) hx hb dX3_spend_64 (by decide) (fun c103 => ?_) (fun c103 => ?_)
    · replace hf := (if_pos c103).symm.trans hf
      refine lv_iconst (v := 0) hx hb dX3_spend_71 (by decide) ?_
      exact tX3_spend_72 X hr hlk hk24 x2 x3 x4 x5 x6 x7 0 M hf H locs ls hw (lv_sub hl [0, 1, 2, 3, 4, 5, 6] rfl)
    · replace hf := (if_neg c103).symm.trans hf
      refine lv_iconst (v := 1) hx hb dX3_spend_67 (by decide) ?_
      refine lv_goto (tgt := 72) hx hb dX3_spend_68 (by decide) ?_
      exact tX3_spend_72 X hr hlk hk24 x2 x3 x4 x5 x6 x7 1 M hf H locs ls hw (lv_sub hl [0, 1, 2, 3, 4, 5, 6] rfl)
set_option maxHeartbeats 4000000 in
set_option maxRecDepth 100000 in
theorem tX3_spend_24 {p : Program} {l : Launch} {e : Env} {s : State} {m : MethodId} {args : Array Value} {below : List Frame} {meth : Method} {c : Code} {E : EE} {b : Nat} {TC : Int64} {MM : Mem} {TM : Int64} {res : Mem} (X : CX E p s m args c cX3_spend 9 RX3) (hr : meth.sig.returnType = none) (hlk : meth.locks = false)    : ∀ (n : Nat) (x2 : Int32) (x3 : Int32) (x4 : Int32) (x5 : Int32) (x6 : Int32) (x7 : Int32) (M : Mem), gX3_spend_24 n x2 x3 x4 x5 x6 x7 M = some res → ∀ (H : Heap) (locs : List Loc) (ls : Array Slot), WW E b M TC MM TM s H locs → lv_has ls 9 [(0, .ref (b + 185)), (2, .int x2), (3, .int x3), (4, .int x4), (5, .int x5), (6, .int x6), (7, .int x7)] → W p l e rmX3_spend s m args below meth c H locs 0 0 (MQ below (va_Qv (fun (_ : Unit) => True) (fun _ t => PW E b res TC MM TM t) (AA b)) args s 0 0 (AA b)) (F0 m 24 ls []) := by
  have hx := X.1
  have hb := X.2.1
  intro n
  induction n with
  | zero =>
    intro x2 x3 x4 x5 x6 x7 M hf
    cases (show (none : Option (Mem)) = some res from hf)
  | succ n ih =>
    intro x2 x3 x4 x5 x6 x7 M hf H locs ls hw hl
    rw [gX3_spend_24] at hf
    refine lv_iload hx hb dX3_spend_24 (lv_at hl 6 rfl) ?_
    refine lv_if_lt (tgt := 106) hx hb dX3_spend_26 (by decide) (fun c99 => ?_) (fun c99 => ?_)
    · replace hf := (if_pos c99).symm.trans hf
      replace hf := Option.some.inj hf
      subst hf
      exact eV X hw hr hlk dX3_spend_106
    · replace hf := (if_neg c99).symm.trans hf
      refine lv_iload hx hb dX3_spend_29 (lv_at hl 6 rfl) ?_
      refine lv_iload hx hb dX3_spend_31 (lv_at hl 4 rfl) ?_
      refine lv_icmp_ge (tgt := 53) hx hb dX3_spend_33 (by decide) (fun c100 => ?_) (fun c100 => ?_)
      · replace hf := (if_pos c100).symm.trans hf
        exact tX3_spend_53 X hr hlk ih x2 x3 x4 x5 x6 x7 M hf H locs ls hw (lv_sub hl [0, 1, 2, 3, 4, 5, 6] rfl)
      · replace hf := (if_neg c100).symm.trans hf
        refine lv_aload_n hx hb dX3_spend_36 rfl (lv_at hl 0 rfl) ?_
        refine gt_X3 X hw 2 kk_185 rfl (by decide) mw_253 rfl dX3_spend_37 ?_
        refine lv_iload hx hb dX3_spend_40 (lv_at hl 5 rfl) ?_
        refine lv_iload hx hb dX3_spend_42 (lv_at hl 6 rfl) ?_
        refine lv_isub hx hb dX3_spend_44 ?_
        refine lv_iconst (v := 1) hx hb dX3_spend_45 (by decide) ?_
        refine lv_isub hx hb dX3_spend_46 ?_
        obtain ⟨v117, q118, hf⟩ := ob hf
        refine aldC X hw kdv_188 q118 dX3_spend_47 ?_
        refine lv_iload_n hx hb dX3_spend_48 rfl (lv_at hl 2 rfl) ?_
        refine lv_icmp_ne (tgt := 53) hx hb dX3_spend_49 (by decide) (fun c119 => ?_) (fun c119 => ?_)
        · replace hf := (if_neg c119).symm.trans hf
          exact tX3_spend_53 X hr hlk ih x2 x3 x4 x5 x6 x7 M hf H locs ls hw (lv_sub hl [0, 1, 2, 3, 4, 5, 6] rfl)
        · replace hf := (if_pos c119).symm.trans hf
          replace hf := Option.some.inj hf
          subst hf
          exact eV X hw hr hlk dX3_spend_52
set_option maxHeartbeats 4000000 in
set_option maxRecDepth 100000 in
theorem ctX3_spend (l : Launch) (E : EE) (b : Nat) {TC : Int64} {MM : Mem} {TM : Int64} {x1 : Int32} {x2 : Int32} {x3 : Int32} {x4 : Int32} {M : Mem} {res : Mem}  (hf : gX3_spend x1 x2 x3 x4 M = some res) : MetV l E b yX3_spend (.code yX3_spend cX3_spend 9 none) rmX3_spend [.ref (b + 185), .int x1, .int x2, .int x3, .int x4] M TC MM TM res TC MM TM := by
  refine Met.ofW (cc := cX3_spend) (maxL := 9) (ret := none) (by decide) rfl ?_
  intro p e s m args below meth c s₁ B hml hv
  obtain ⟨rfl, hP, hK⟩ := hv
  have hx := B.exec
  have hb := B.bytes
  have X : CX E p s m _ c cX3_spend 9 RX3 := ⟨hx, hb, hml, findClass_of_methodNamed B.named, fun w h => atoms_spec (ws := _ :: wt) B.pre w (List.mem_cons_of_mem _ h), hK⟩
  have hr := B.returns
  have hlk := B.notSynchronized
  have hw : WW E b M TC MM TM s s.heap [] := ⟨hP, va_S.rf⟩
  have hl := lv_entry ([.ref (b + 185), .int x1, .int x2, .int x3, .int x4]) (n := 9) (Nat.le_of_ble_eq_true rfl)
  rw [lg_entry_eq]
  generalize (lg_sl ([.ref (b + 185), .int x1, .int x2, .int x3, .int x4]) ++ List.replicate (9 - (lg_sl ([.ref (b + 185), .int x1, .int x2, .int x3, .int x4])).length) Slot.unset).toArray = ls at hl ⊢
  have hl : lv_has ls 9 [(0, .ref (b + 185)), (1, .int x1), (2, .int x2), (3, .int x3), (4, .int x4)] := hl
  obtain ⟨H, hH⟩ : ∃ H, H = s.heap := ⟨_, rfl⟩
  obtain ⟨locs, hL⟩ : ∃ L : List Loc, L = [] := ⟨_, rfl⟩
  rw [← hH, ← hL] at hw
  suffices hg : W p l e rmX3_spend s m _ below meth c H locs 0 0 (MQ below (va_Qv (fun (_ : Unit) => True) (fun _ t => PW E b res TC MM TM t) (AA b)) _ s 0 0 (AA b)) (F0 m 0 ls []) by rw [hH, hL] at hg; exact hg
  clear hH hL
  rw [gX3_spend] at hf
  refine lv_iload_n hx hb dX3_spend_0 rfl (lv_at hl 2 rfl) ?_
  refine lv_iconst (v := 1) hx hb dX3_spend_1 (by decide) ?_
  refine lv_iadd hx hb dX3_spend_2 ?_
  refine lv_aload_n hx hb dX3_spend_3 rfl (lv_at hl 0 rfl) ?_
  refine gt_X3 X hw 7 kk_185 rfl (by decide) mw_258 rfl dX3_spend_4 ?_
  refine va_mmin hx hb (by rw [X.2.2.1]; exact hl.1.symm) X.2.2.2.1 (X.2.2.2.2.1 _ mw_556) (X.2.2.2.2.1 _ mw_354) (X.2.2.2.2.1 _ mw_62) (X.2.2.2.2.1 _ code_min) (Nat.le_of_ble_eq_true rfl) (Nat.le_of_ble_eq_true rfl) (Nat.zero_le _) (Nat.zero_le _) dX3_spend_7 ?_
  refine lv_topi (fun z97 ez97 => ?_)
  replace hf := nmb hf ez97
  refine lv_istore (lv' := [(5, .int z97), (0, .ref (b + 185)), (1, .int x1), (2, .int x2), (3, .int x3), (4, .int x4)]) hx hb dX3_spend_10 hl (by decide) rfl (fun ls hl => ?_)
  refine lv_aload_n hx hb dX3_spend_12 rfl (lv_at hl 1 rfl) ?_
  refine gt_X3 X hw 5 kk_185 rfl (by decide) mw_256 rfl dX3_spend_13 ?_
  refine lv_iload_n hx hb dX3_spend_16 rfl (lv_at hl 2 rfl) ?_
  refine lv_iadd hx hb dX3_spend_17 ?_
  refine lv_topi (fun z98 ez98 => ?_)
  replace hf := nmb hf ez98
  refine lv_istore (lv' := [(6, .int z98), (5, .int z97), (0, .ref (b + 185)), (1, .int x1), (2, .int x2), (3, .int x3), (4, .int x4)]) hx hb dX3_spend_18 hl (by decide) rfl (fun ls hl => ?_)
  refine lv_iload hx hb dX3_spend_20 (lv_at hl 1 rfl) ?_
  refine lv_istore (lv' := [(7, .int z97), (6, .int z98), (5, .int z97), (0, .ref (b + 185)), (1, .int x1), (2, .int x2), (3, .int x3), (4, .int x4)]) hx hb dX3_spend_22 hl (by decide) rfl (fun ls hl => ?_)
  exact tX3_spend_24 X hr hlk FU x2 x3 x4 z97 z98 z97 M hf H locs ls hw (lv_sub hl [3, 5, 6, 7, 2, 1, 0] rfl)

abbrev rmX3_firstFailingEvening : Room := { frames := 2, cells := 0, slots := 0, locals := 49 }
theorem hd_X3_firstFailingEvening : Hd yX3_firstFailingEvening RX3 3 := by decide +kernel
def gX3_firstFailingEvening_72  (k23 : Int32 → Int32 → Int32 → Int32 → Mem → Option (Int32 × Mem)) (k42 : Int32 → Int32 → Int32 → Int32 → Int32 → Mem → Option (Int32 × Mem)) (x1 : Int32) (x2 : Int32) (x3 : Int32) (x4 : Int32) (x5 : Int32) (M : Mem) : Option (Int32 × Mem) := (some (x5 + 1)).bind fun z149 => k42 x1 x2 x3 x4 z149 M
def gX3_firstFailingEvening_42  (k23 : Int32 → Int32 → Int32 → Int32 → Mem → Option (Int32 × Mem)) : Nat → Int32 → Int32 → Int32 → Int32 → Int32 → Mem → Option (Int32 × Mem)
  | 0, _, _, _, _, _, _ => none
  | n + 1, x1, x2, x3, x4, x5, M => if 12 < x5 then ((gA 13 (M 185 3)).bind fun z135 => (gA 13 (M 185 4)).bind fun z137 => (some (us M 185 3 z137)).bind fun M138 => (some (us M138 185 4 z135)).bind fun M139 => (gX3_fewestCuts M139).bind fun u140 => if u140 = ((-9)) then (some (x4, M139)) else ((some (x4 + 1)).bind fun z143 => k23 x1 x2 x3 z143 M139)) else ((gA 13 (M 185 3)).bind fun z145 => (ldA 13 (M z145.toNatClampNeg) x5).bind fun v146 => if 1000 ≤ v146 then (gX3_firstFailingEvening_72 k23 (gX3_firstFailingEvening_42 k23 n) x1 x2 x3 x4 x5 M) else ((gX3_spend x4 x5 x1 x3 M).bind fun u150 => gX3_firstFailingEvening_72 k23 (gX3_firstFailingEvening_42 k23 n) x1 x2 x3 x4 x5 u150))
def gX3_firstFailingEvening_23   : Nat → Int32 → Int32 → Int32 → Int32 → Mem → Option (Int32 × Mem)
  | 0, _, _, _, _, _ => none
  | n + 1, x1, x2, x3, x4, M => if x2 < x4 then (some ((-9), M)) else ((gA 13 (M 185 4)).bind fun z130 => (gJ7_fill_53178 z130.toNatClampNeg 13 1000 M).bind fun u131 => gX3_firstFailingEvening_42 (gX3_firstFailingEvening_23 n) FU x1 x2 x3 x4 0 u131)
def gX3_firstFailingEvening (x1 : Int32) (x2 : Int32) (x3 : Int32) (M : Mem) : Option (Int32 × Mem) := (gA 13 (M 185 3)).bind fun z121 => (gJ7_fill_53178 z121.toNatClampNeg 13 1000 M).bind fun u122 => (gA 13 (u122 185 3)).bind fun z125 => (stA 13 u122 z125.toNatClampNeg (u122 185 5) 0).bind fun M126 => gX3_firstFailingEvening_23 FU x1 x2 x3 1 M126
set_option maxHeartbeats 4000000 in
set_option maxRecDepth 100000 in
theorem tX3_firstFailingEvening_72 {p : Program} {l : Launch} {e : Env} {s : State} {m : MethodId} {args : Array Value} {below : List Frame} {meth : Method} {c : Code} {E : EE} {b : Nat} {TC : Int64} {MM : Mem} {TM : Int64} {res : Int32 × Mem} (X : CX E p s m args c cX3_firstFailingEvening 6 RX3) (hr : meth.sig.returnType = (some .int)) (hlk : meth.locks = false)   {k23 : Int32 → Int32 → Int32 → Int32 → Mem → Option (Int32 × Mem)} (hk23 : ∀ (x1 : Int32) (x2 : Int32) (x3 : Int32) (x4 : Int32) (M : Mem), k23 x1 x2 x3 x4 M = some res → ∀ (H : Heap) (locs : List Loc) (ls : Array Slot), WW E b M TC MM TM s H locs → lv_has ls 6 [(0, .ref (b + 185)), (1, .int x1), (2, .int x2), (3, .int x3), (4, .int x4)] → W p l e rmX3_firstFailingEvening s m args below meth c H locs 0 0 (MQ below (va_Qi (fun x (_ : Unit) => x = res.1) (fun _ t => PW E b res.2 TC MM TM t) (AA b)) args s 0 0 (AA b)) (F0 m 23 ls [])) {k42 : Int32 → Int32 → Int32 → Int32 → Int32 → Mem → Option (Int32 × Mem)} (hk42 : ∀ (x1 : Int32) (x2 : Int32) (x3 : Int32) (x4 : Int32) (x5 : Int32) (M : Mem), k42 x1 x2 x3 x4 x5 M = some res → ∀ (H : Heap) (locs : List Loc) (ls : Array Slot), WW E b M TC MM TM s H locs → lv_has ls 6 [(0, .ref (b + 185)), (1, .int x1), (2, .int x2), (3, .int x3), (4, .int x4), (5, .int x5)] → W p l e rmX3_firstFailingEvening s m args below meth c H locs 0 0 (MQ below (va_Qi (fun x (_ : Unit) => x = res.1) (fun _ t => PW E b res.2 TC MM TM t) (AA b)) args s 0 0 (AA b)) (F0 m 42 ls [])) : ∀ (x1 : Int32) (x2 : Int32) (x3 : Int32) (x4 : Int32) (x5 : Int32) (M : Mem), gX3_firstFailingEvening_72 k23 k42 x1 x2 x3 x4 x5 M = some res → ∀ (H : Heap) (locs : List Loc) (ls : Array Slot), WW E b M TC MM TM s H locs → lv_has ls 6 [(0, .ref (b + 185)), (1, .int x1), (2, .int x2), (3, .int x3), (4, .int x4), (5, .int x5)] → W p l e rmX3_firstFailingEvening s m args below meth c H locs 0 0 (MQ below (va_Qi (fun x (_ : Unit) => x = res.1) (fun _ t => PW E b res.2 TC MM TM t) (AA b)) args s 0 0 (AA b)) (F0 m 72 ls []) := by
  have hx := X.1
  have hb := X.2.1
  intro x1 x2 x3 x4 x5 M hf H locs ls hw hl
  rw [gX3_firstFailingEvening_72] at hf
  obtain ⟨z149, ez149⟩ : ∃ y : Int32, y = x5 + 1 := ⟨_, rfl⟩
  replace hf := nmb hf ez149
  refine lv_iinc (v := z149) (lv' := [(5, .int z149), (0, .ref (b + 185)), (1, .int x1), (2, .int x2), (3, .int x3), (4, .int x4)]) hx hb dX3_firstFailingEvening_72 hl (k := 5) rfl (by rw [ez149]; rfl) (by decide) rfl (fun ls hl => ?_)
  refine lv_goto (tgt := 42) hx hb dX3_firstFailingEvening_75 (by decide) ?_
  exact hk42 x1 x2 x3 x4 z149 M hf H locs ls hw (lv_sub hl [1, 2, 3, 4, 5, 0] rfl)
set_option maxHeartbeats 4000000 in
set_option maxRecDepth 100000 in
theorem tX3_firstFailingEvening_42 {p : Program} {l : Launch} {e : Env} {s : State} {m : MethodId} {args : Array Value} {below : List Frame} {meth : Method} {c : Code} {E : EE} {b : Nat} {TC : Int64} {MM : Mem} {TM : Int64} {res : Int32 × Mem} (X : CX E p s m args c cX3_firstFailingEvening 6 RX3) (hr : meth.sig.returnType = (some .int)) (hlk : meth.locks = false)   {k23 : Int32 → Int32 → Int32 → Int32 → Mem → Option (Int32 × Mem)} (hk23 : ∀ (x1 : Int32) (x2 : Int32) (x3 : Int32) (x4 : Int32) (M : Mem), k23 x1 x2 x3 x4 M = some res → ∀ (H : Heap) (locs : List Loc) (ls : Array Slot), WW E b M TC MM TM s H locs → lv_has ls 6 [(0, .ref (b + 185)), (1, .int x1), (2, .int x2), (3, .int x3), (4, .int x4)] → W p l e rmX3_firstFailingEvening s m args below meth c H locs 0 0 (MQ below (va_Qi (fun x (_ : Unit) => x = res.1) (fun _ t => PW E b res.2 TC MM TM t) (AA b)) args s 0 0 (AA b)) (F0 m 23 ls [])) : ∀ (n : Nat) (x1 : Int32) (x2 : Int32) (x3 : Int32) (x4 : Int32) (x5 : Int32) (M : Mem), gX3_firstFailingEvening_42 k23 n x1 x2 x3 x4 x5 M = some res → ∀ (H : Heap) (locs : List Loc) (ls : Array Slot), WW E b M TC MM TM s H locs → lv_has ls 6 [(0, .ref (b + 185)), (1, .int x1), (2, .int x2), (3, .int x3), (4, .int x4), (5, .int x5)] → W p l e rmX3_firstFailingEvening s m args below meth c H locs 0 0 (MQ below (va_Qi (fun x (_ : Unit) => x = res.1) (fun _ t => PW E b res.2 TC MM TM t) (AA b)) args s 0 0 (AA b)) (F0 m 42 ls []) := by
  have hx := X.1
  have hb := X.2.1
  intro n
  induction n with
  | zero =>
    intro x1 x2 x3 x4 x5 M hf
    cases (show (none : Option (Int32 × Mem)) = some res from hf)
  | succ n ih =>
    intro x1 x2 x3 x4 x5 M hf H locs ls hw hl
    rw [gX3_firstFailingEvening_42] at hf
    refine lv_iload hx hb dX3_firstFailingEvening_42 (lv_at hl 5 rfl) ?_
    refine lv_bipush (v := 12) hx hb dX3_firstFailingEvening_44 (by decide) ?_
    refine lv_icmp_gt (tgt := 78) hx hb dX3_firstFailingEvening_46 (by decide) (fun c133 => ?_) (fun c133 => ?_)
    · replace hf := (if_pos c133).symm.trans hf
      refine lv_aload_n hx hb dX3_firstFailingEvening_78 rfl (lv_at hl 0 rfl) ?_
      refine gt_X3 X hw 3 kk_185 rfl (by decide) mw_254 rfl dX3_firstFailingEvening_79 ?_
      obtain ⟨z135, q134, hf⟩ := ob hf
      rw [gA_e q134]
      refine lv_astore (lv' := [(5, .ref (b + z135.toNatClampNeg)), (0, .ref (b + 185)), (1, .int x1), (2, .int x2), (3, .int x3), (4, .int x4)]) hx hb dX3_firstFailingEvening_82 hl (by decide) rfl (fun ls hl => ?_)
      refine lv_aload_n hx hb dX3_firstFailingEvening_84 rfl (lv_at hl 1 rfl) ?_
      refine lv_aload_n hx hb dX3_firstFailingEvening_85 rfl (lv_at hl 1 rfl) ?_
      refine gt_X3 X hw 4 kk_185 rfl (by decide) mw_255 rfl dX3_firstFailingEvening_86 ?_
      obtain ⟨z137, q136, hf⟩ := ob hf
      rw [gA_e q136]
      obtain ⟨M138, eM138, hf⟩ := ob hf
      refine pt_X3_3 X hw kk_185 mw_254 dX3_firstFailingEvening_89 (fun H locs hw => ?_)
      rw [Option.some.inj eM138] at hw
      refine lv_aload_n hx hb dX3_firstFailingEvening_92 rfl (lv_at hl 1 rfl) ?_
      refine lv_aload hx hb dX3_firstFailingEvening_93 (lv_at hl 0 rfl) ?_
      obtain ⟨M139, eM139, hf⟩ := ob hf
      refine pt_X3_4 X hw kk_185 mw_255 dX3_firstFailingEvening_95 (fun H locs hw => ?_)
      rw [Option.some.inj eM139] at hw
      refine lv_aload_n hx hb dX3_firstFailingEvening_98 rfl (lv_at hl 1 rfl) ?_
      obtain ⟨u140, q141, hf⟩ := ob hf
      refine cVi (As := []) X hw (ctX3_fewestCuts l E b  q141) ⟨mw_557, mw_558, mw_559, mw_60, mw_560⟩ hd_X3_fewestCuts ⟨Nat.le_of_ble_eq_true rfl, Nat.le_of_ble_eq_true rfl, rfl, rfl⟩ (kdk kk_185 (by decide)) (ce_X3 E _ _ _ _ kk_185) (show vwCl[3]? = some (RX3, TX3, 8) from rfl) rfl hl.1 rfl (Nat.le_of_ble_eq_true rfl) dX3_firstFailingEvening_99 (fun H locs hw => ?_)
      refine lv_bipush (v := (-9)) hx hb dX3_firstFailingEvening_102 (by decide) ?_
      refine lv_icmp_ne (tgt := 110) hx hb dX3_firstFailingEvening_104 (by decide) (fun c142 => ?_) (fun c142 => ?_)
      · replace hf := (if_neg c142).symm.trans hf
        obtain ⟨z143, ez143⟩ : ∃ y : Int32, y = x4 + 1 := ⟨_, rfl⟩
        replace hf := nmb hf ez143
        refine lv_iinc (v := z143) (lv' := [(4, .int z143), (5, .ref (b + z135.toNatClampNeg)), (0, .ref (b + 185)), (1, .int x1), (2, .int x2), (3, .int x3)]) hx hb dX3_firstFailingEvening_110 hl (k := 5) rfl (by rw [ez143]; rfl) (by decide) rfl (fun ls hl => ?_)
        refine lv_goto (tgt := 23) hx hb dX3_firstFailingEvening_113 (by decide) ?_
        exact hk23 x1 x2 x3 z143 M139 hf H locs ls hw (lv_sub hl [2, 3, 4, 5, 0] rfl)
      · replace hf := (if_pos c142).symm.trans hf
        refine lv_iload hx hb dX3_firstFailingEvening_107 (lv_at hl 5 rfl) ?_
        replace hf := Option.some.inj hf
        subst hf
        exact eI X hw hr hlk dX3_firstFailingEvening_109
    · replace hf := (if_neg c133).symm.trans hf
      refine lv_aload_n hx hb dX3_firstFailingEvening_49 rfl (lv_at hl 0 rfl) ?_
      refine gt_X3 X hw 3 kk_185 rfl (by decide) mw_254 rfl dX3_firstFailingEvening_50 ?_
      obtain ⟨z145, q144, hf⟩ := ob hf
      rw [gA_e q144]
      refine lv_iload hx hb dX3_firstFailingEvening_53 (lv_at hl 5 rfl) ?_
      obtain ⟨v146, q147, hf⟩ := ob hf
      refine aldC X hw (gA_t q144) q147 dX3_firstFailingEvening_55 ?_
      refine lv_sipush (v := 1000) hx hb dX3_firstFailingEvening_56 (by decide) ?_
      refine lv_icmp_ge (tgt := 72) hx hb dX3_firstFailingEvening_59 (by decide) (fun c148 => ?_) (fun c148 => ?_)
      · replace hf := (if_pos c148).symm.trans hf
        exact tX3_firstFailingEvening_72 X hr hlk hk23 ih x1 x2 x3 x4 x5 M hf H locs ls hw (lv_sub hl [0, 1, 2, 3, 4, 5] rfl)
      · replace hf := (if_neg c148).symm.trans hf
        refine lv_aload_n hx hb dX3_firstFailingEvening_62 rfl (lv_at hl 0 rfl) ?_
        refine lv_iload hx hb dX3_firstFailingEvening_63 (lv_at hl 4 rfl) ?_
        refine lv_iload hx hb dX3_firstFailingEvening_65 (lv_at hl 5 rfl) ?_
        refine lv_iload_n hx hb dX3_firstFailingEvening_67 rfl (lv_at hl 1 rfl) ?_
        refine lv_iload_n hx hb dX3_firstFailingEvening_68 rfl (lv_at hl 3 rfl) ?_
        obtain ⟨u150, q151, hf⟩ := ob hf
        refine cVv (As := [.int x4, .int x5, .int x1, .int x3]) X hw (ctX3_spend l E b  q151) ⟨mw_552, mw_554, mw_16, mw_60, mw_555⟩ hd_X3_spend ⟨Nat.le_of_ble_eq_true rfl, Nat.le_of_ble_eq_true rfl, rfl, rfl⟩ (kdk kk_185 (by decide)) (ce_X3 E _ _ _ _ kk_185) (show vwCl[3]? = some (RX3, TX3, 8) from rfl) rfl hl.1 rfl (Nat.le_of_ble_eq_true rfl) dX3_firstFailingEvening_69 (fun H locs hw => ?_)
        exact tX3_firstFailingEvening_72 X hr hlk hk23 ih x1 x2 x3 x4 x5 u150 hf H locs ls hw (lv_sub hl [0, 1, 2, 3, 4, 5] rfl)
set_option maxHeartbeats 4000000 in
set_option maxRecDepth 100000 in
theorem tX3_firstFailingEvening_23 {p : Program} {l : Launch} {e : Env} {s : State} {m : MethodId} {args : Array Value} {below : List Frame} {meth : Method} {c : Code} {E : EE} {b : Nat} {TC : Int64} {MM : Mem} {TM : Int64} {res : Int32 × Mem} (X : CX E p s m args c cX3_firstFailingEvening 6 RX3) (hr : meth.sig.returnType = (some .int)) (hlk : meth.locks = false)    : ∀ (n : Nat) (x1 : Int32) (x2 : Int32) (x3 : Int32) (x4 : Int32) (M : Mem), gX3_firstFailingEvening_23 n x1 x2 x3 x4 M = some res → ∀ (H : Heap) (locs : List Loc) (ls : Array Slot), WW E b M TC MM TM s H locs → lv_has ls 6 [(0, .ref (b + 185)), (1, .int x1), (2, .int x2), (3, .int x3), (4, .int x4)] → W p l e rmX3_firstFailingEvening s m args below meth c H locs 0 0 (MQ below (va_Qi (fun x (_ : Unit) => x = res.1) (fun _ t => PW E b res.2 TC MM TM t) (AA b)) args s 0 0 (AA b)) (F0 m 23 ls []) := by
  have hx := X.1
  have hb := X.2.1
  intro n
  induction n with
  | zero =>
    intro x1 x2 x3 x4 M hf
    cases (show (none : Option (Int32 × Mem)) = some res from hf)
  | succ n ih =>
    intro x1 x2 x3 x4 M hf H locs ls hw hl
    rw [gX3_firstFailingEvening_23] at hf
    refine lv_iload hx hb dX3_firstFailingEvening_23 (lv_at hl 4 rfl) ?_
    refine lv_iload_n hx hb dX3_firstFailingEvening_25 rfl (lv_at hl 2 rfl) ?_
    refine lv_icmp_gt (tgt := 116) hx hb dX3_firstFailingEvening_26 (by decide) (fun c128 => ?_) (fun c128 => ?_)
    · replace hf := (if_pos c128).symm.trans hf
      refine lv_bipush (v := (-9)) hx hb dX3_firstFailingEvening_116 (by decide) ?_
      replace hf := Option.some.inj hf
      subst hf
      exact eI X hw hr hlk dX3_firstFailingEvening_118
    · replace hf := (if_neg c128).symm.trans hf
      refine lv_aload_n hx hb dX3_firstFailingEvening_29 rfl (lv_at hl 0 rfl) ?_
      refine gt_X3 X hw 4 kk_185 rfl (by decide) mw_255 rfl dX3_firstFailingEvening_30 ?_
      obtain ⟨z130, q129, hf⟩ := ob hf
      rw [gA_e q129]
      refine lv_sipush (v := 1000) hx hb dX3_firstFailingEvening_33 (by decide) ?_
      obtain ⟨u131, q132, hf⟩ := ob hf
      refine cSv (As := [.ref (b + z130.toNatClampNeg), .int 1000]) X hw (ctJ7_fill_53178 l E b (gA_t q129) q132) ⟨mw_551, mw_176, mw_58, mw_177⟩ hd_J7_fill_53178 ⟨Nat.le_of_ble_eq_true rfl, Nat.le_of_ble_eq_true rfl, rfl, rfl⟩ rfl hl.1 rfl (Nat.le_of_ble_eq_true rfl) dX3_firstFailingEvening_36 (fun H locs hw => ?_)
      refine lv_iconst (v := 0) hx hb dX3_firstFailingEvening_39 (by decide) ?_
      refine lv_istore (lv' := [(5, .int 0), (0, .ref (b + 185)), (1, .int x1), (2, .int x2), (3, .int x3), (4, .int x4)]) hx hb dX3_firstFailingEvening_40 hl (by decide) rfl (fun ls hl => ?_)
      exact tX3_firstFailingEvening_42 X hr hlk ih FU x1 x2 x3 x4 0 u131 hf H locs ls hw (lv_sub hl [1, 2, 3, 4, 5, 0] rfl)
set_option maxHeartbeats 4000000 in
set_option maxRecDepth 100000 in
theorem ctX3_firstFailingEvening (l : Launch) (E : EE) (b : Nat) {TC : Int64} {MM : Mem} {TM : Int64} {x1 : Int32} {x2 : Int32} {x3 : Int32} {M : Mem} {res : Int32 × Mem}  (hf : gX3_firstFailingEvening x1 x2 x3 M = some res) : MetI l E b yX3_firstFailingEvening (.code yX3_firstFailingEvening cX3_firstFailingEvening 6 (some .int)) rmX3_firstFailingEvening [.ref (b + 185), .int x1, .int x2, .int x3] M TC MM TM res.1 res.2 TC MM TM := by
  refine Met.ofW (cc := cX3_firstFailingEvening) (maxL := 6) (ret := (some .int)) (by decide) rfl ?_
  intro p e s m args below meth c s₁ B hml hv
  obtain ⟨rfl, hP, hK⟩ := hv
  have hx := B.exec
  have hb := B.bytes
  have X : CX E p s m _ c cX3_firstFailingEvening 6 RX3 := ⟨hx, hb, hml, findClass_of_methodNamed B.named, fun w h => atoms_spec (ws := _ :: wt) B.pre w (List.mem_cons_of_mem _ h), hK⟩
  have hr := B.returns
  have hlk := B.notSynchronized
  have hw : WW E b M TC MM TM s s.heap [] := ⟨hP, va_S.rf⟩
  have hl := lv_entry ([.ref (b + 185), .int x1, .int x2, .int x3]) (n := 6) (Nat.le_of_ble_eq_true rfl)
  rw [lg_entry_eq]
  generalize (lg_sl ([.ref (b + 185), .int x1, .int x2, .int x3]) ++ List.replicate (6 - (lg_sl ([.ref (b + 185), .int x1, .int x2, .int x3])).length) Slot.unset).toArray = ls at hl ⊢
  have hl : lv_has ls 6 [(0, .ref (b + 185)), (1, .int x1), (2, .int x2), (3, .int x3)] := hl
  obtain ⟨H, hH⟩ : ∃ H, H = s.heap := ⟨_, rfl⟩
  obtain ⟨locs, hL⟩ : ∃ L : List Loc, L = [] := ⟨_, rfl⟩
  rw [← hH, ← hL] at hw
  suffices hg : W p l e rmX3_firstFailingEvening s m _ below meth c H locs 0 0 (MQ below (va_Qi (fun x (_ : Unit) => x = res.1) (fun _ t => PW E b res.2 TC MM TM t) (AA b)) _ s 0 0 (AA b)) (F0 m 0 ls []) by rw [hH, hL] at hg; exact hg
  clear hH hL
  rw [gX3_firstFailingEvening] at hf
  refine lv_aload_n hx hb dX3_firstFailingEvening_0 rfl (lv_at hl 0 rfl) ?_
  refine gt_X3 X hw 3 kk_185 rfl (by decide) mw_254 rfl dX3_firstFailingEvening_1 ?_
  obtain ⟨z121, q120, hf⟩ := ob hf
  rw [gA_e q120]
  refine lv_sipush (v := 1000) hx hb dX3_firstFailingEvening_4 (by decide) ?_
  obtain ⟨u122, q123, hf⟩ := ob hf
  refine cSv (As := [.ref (b + z121.toNatClampNeg), .int 1000]) X hw (ctJ7_fill_53178 l E b (gA_t q120) q123) ⟨mw_551, mw_176, mw_58, mw_177⟩ hd_J7_fill_53178 ⟨Nat.le_of_ble_eq_true rfl, Nat.le_of_ble_eq_true rfl, rfl, rfl⟩ rfl hl.1 rfl (Nat.le_of_ble_eq_true rfl) dX3_firstFailingEvening_7 (fun H locs hw => ?_)
  refine lv_aload_n hx hb dX3_firstFailingEvening_10 rfl (lv_at hl 0 rfl) ?_
  refine gt_X3 X hw 3 kk_185 rfl (by decide) mw_254 rfl dX3_firstFailingEvening_11 ?_
  obtain ⟨z125, q124, hf⟩ := ob hf
  rw [gA_e q124]
  refine lv_aload_n hx hb dX3_firstFailingEvening_14 rfl (lv_at hl 0 rfl) ?_
  refine gt_X3 X hw 5 kk_185 rfl (by decide) mw_256 rfl dX3_firstFailingEvening_15 ?_
  refine lv_iconst (v := 0) hx hb dX3_firstFailingEvening_18 (by decide) ?_
  obtain ⟨M126, q127, hf⟩ := ob hf
  refine astC X hw (gA_t q124) q127 dX3_firstFailingEvening_19 (fun H locs hw => ?_)
  refine lv_iconst (v := 1) hx hb dX3_firstFailingEvening_20 (by decide) ?_
  refine lv_istore (lv' := [(4, .int 1), (0, .ref (b + 185)), (1, .int x1), (2, .int x2), (3, .int x3)]) hx hb dX3_firstFailingEvening_21 hl (by decide) rfl (fun ls hl => ?_)
  exact tX3_firstFailingEvening_23 X hr hlk FU x1 x2 x3 1 M126 hf H locs ls hw (lv_sub hl [1, 2, 3, 4, 0] rfl)
