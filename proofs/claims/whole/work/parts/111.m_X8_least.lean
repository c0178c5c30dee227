abbrev rmX8_least : Room := { frames := 2, cells := 0, slots := 0, locals := 44 }
theorem hd_X8_least : Hd yX8_least RX8 3 := by decide +kernel
def gX8_least_132  (k34 : Int32 → Int32 → Int32 → Int32 → Int32 → Mem → Option (Int32 × Mem)) (x1 : Int32) (x2 : Int32) (x3 : Int32) (x5 : Int32) (y0 : Int32) (M : Mem) : Option (Int32 × Mem) := (some (x5 + 1)).bind fun z18 => k34 x1 x2 x3 y0 z18 M
def gX8_least_115  (k34 : Int32 → Int32 → Int32 → Int32 → Int32 → Mem → Option (Int32 × Mem)) (x1 : Int32) (x2 : Int32) (x3 : Int32) (x4 : Int32) (x5 : Int32) (y0 : Int32) (M : Mem) : Option (Int32 × Mem) := if y0 = 0 then (gX8_least_132 k34 x1 x2 x3 x5 x4 M) else ((gX8_bits x5).bind fun u19 => gX8_least_132 k34 x1 x2 x3 x5 u19 M)
def gX8_least_114  (k34 : Int32 → Int32 → Int32 → Int32 → Int32 → Mem → Option (Int32 × Mem)) (x1 : Int32) (x2 : Int32) (x3 : Int32) (x4 : Int32) (x5 : Int32) (M : Mem) : Option (Int32 × Mem) := gX8_least_115 k34 x1 x2 x3 x4 x5 0 M
def gX8_least_110  (k34 : Int32 → Int32 → Int32 → Int32 → Int32 → Mem → Option (Int32 × Mem)) (x1 : Int32) (x2 : Int32) (x3 : Int32) (x4 : Int32) (x5 : Int32) (M : Mem) : Option (Int32 × Mem) := gX8_least_115 k34 x1 x2 x3 x4 x5 1 M
def gX8_least_78  (k34 : Int32 → Int32 → Int32 → Int32 → Int32 → Mem → Option (Int32 × Mem)) (k50 : Int32 → Int32 → Int32 → Int32 → Int32 → Int32 → Mem → Option (Int32 × Mem)) (x1 : Int32) (x2 : Int32) (x3 : Int32) (x4 : Int32) (x5 : Int32) (x6 : Int32) (y0 : Int32) (M : Mem) : Option (Int32 × Mem) := (gX8_growsTried y0 M).bind fun u30 => (some (x6 + 1)).bind fun z32 => k50 x1 x2 x3 x4 x5 z32 u30
def gX8_least_50  (k34 : Int32 → Int32 → Int32 → Int32 → Int32 → Mem → Option (Int32 × Mem)) : Nat → Int32 → Int32 → Int32 → Int32 → Int32 → Int32 → Mem → Option (Int32 × Mem)
  | 0, _, _, _, _, _, _, _ => none
  | n + 1, x1, x2, x3, x4, x5, x6, M => if x3 ≤ x6 then ((gX8_isMost x2 M).bind fun u14 => if u14 = 0 then (gX8_least_114 k34 x1 x2 x3 x4 x5 M) else (if x4 < 0 then (gX8_least_110 k34 x1 x2 x3 x4 x5 M) else ((gX8_bits x5).bind fun u22 => if x4 ≤ u22 then (gX8_least_114 k34 x1 x2 x3 x4 x5 M) else (gX8_least_110 k34 x1 x2 x3 x4 x5 M)))) else ((gX8_has x5 x6).bind fun u25 => if u25 = 0 then ((gX8_thinks x1 x6 M).bind fun u28 => gX8_least_78 k34 (gX8_least_50 k34 n) x1 x2 x3 x4 x5 x6 u28 M) else (gX8_least_78 k34 (gX8_least_50 k34 n) x1 x2 x3 x4 x5 x6 x2 M))
def gX8_least_34   : Nat → Int32 → Int32 → Int32 → Int32 → Int32 → Mem → Option (Int32 × Mem)
  | 0, _, _, _, _, _, _ => none
  | n + 1, x1, x2, x3, x4, x5, M => if (1 <<< (x3 &&& 31)) ≤ x5 then (some (x4, M)) else ((gX8_asItIs x1 M).bind fun u11 => gX8_least_50 (gX8_least_34 n) FU x1 x2 x3 x4 x5 0 u11)
def gX8_least (x1 : Int32) (x2 : Int32) (x3 : Int32) (M : Mem) : Option (Int32 × Mem) := (gX8_isOne x1 M).bind fun u1 => if u1 = 0 then (some ((-1), M)) else ((gX8_isThought x2).bind fun u4 => if u4 = 0 then (some ((-1), M)) else ((gX8_in x3 1 8).bind fun u7 => if u7 = 0 then (some ((-1), M)) else (gX8_least_34 FU x1 x2 x3 ((-9)) 0 M)))
set_option maxHeartbeats 4000000 in
set_option maxRecDepth 100000 in
theorem tX8_least_132 {p : Program} {l : Launch} {e : Env} {s : State} {m : MethodId} {args : Array Value} {below : List Frame} {meth : Method} {c : Code} {E : EE} {b : Nat} {MC : Mem} {TC : Int64} {TM : Int64} {res : Int32 × Mem} (X : CX E p s m args c cX8_least 7 RX8) (hr : meth.sig.returnType = (some .int)) (hlk : meth.locks = false)   {k34 : Int32 → Int32 → Int32 → Int32 → Int32 → Mem → Option (Int32 × Mem)} (hk34 : ∀ (x1 : Int32) (x2 : Int32) (x3 : Int32) (x4 : Int32) (x5 : Int32) (M : Mem), k34 x1 x2 x3 x4 x5 M = some res → ∀ (H : Heap) (locs : List Loc) (ls : Array Slot), WW E b MC TC M TM s H locs → lv_has ls 7 [(0, .ref (b + 197)), (1, .int x1), (2, .int x2), (3, .int x3), (4, .int x4), (5, .int x5)] → W p l e rmX8_least s m args below meth c H locs 0 0 (MQ below (va_Qi (fun x (_ : Unit) => x = res.1) (fun _ t => PW E b MC TC res.2 TM t) (AA b)) args s 0 0 (AA b)) (F0 m 34 ls [])) : ∀ (x1 : Int32) (x2 : Int32) (x3 : Int32) (x5 : Int32) (y0 : Int32) (M : Mem), gX8_least_132 k34 x1 x2 x3 x5 y0 M = some res → ∀ (H : Heap) (locs : List Loc) (ls : Array Slot), WW E b MC TC M TM s H locs → lv_has ls 7 [(0, .ref (b + 197)), (1, .int x1), (2, .int x2), (3, .int x3), (5, .int x5)] → W p l e rmX8_least s m args below meth c H locs 0 0 (MQ below (va_Qi (fun x (_ : Unit) => x = res.1) (fun _ t => PW E b MC TC res.2 TM t) (AA b)) args s 0 0 (AA b)) (F0 m 132 ls [.int y0]) := by
  have hx := X.1
  have hb := X.2.1
  intro x1 x2 x3 x5 y0 M hf H locs ls hw hl
  rw [gX8_least_132] at hf
  refine lv_istore (lv' := [(4, .int y0), (0, .ref (b + 197)), (1, .int x1), (2, .int x2), (3, .int x3), (5, .int x5)]) hx hb dX8_least_132 hl (by decide) rfl (fun ls hl => ?_)
  obtain ⟨z18, ez18⟩ : ∃ y : Int32, y = x5 + 1 := ⟨_, rfl⟩
  replace hf := nmb hf ez18
  refine lv_iinc (v := z18) (lv' := [(5, .int z18), (4, .int y0), (0, .ref (b + 197)), (1, .int x1), (2, .int x2), (3, .int x3)]) hx hb dX8_least_134 hl (k := 5) rfl (by rw [ez18]; rfl) (by decide) rfl (fun ls hl => ?_)
  refine lv_goto (tgt := 34) hx hb dX8_least_137 (by decide) ?_
  exact hk34 x1 x2 x3 y0 z18 M hf H locs ls hw (lv_sub hl [2, 3, 4, 5, 1, 0] rfl)
set_option maxHeartbeats 4000000 in
set_option maxRecDepth 100000 in
theorem tX8_least_115 {p : Program} {l : Launch} {e : Env} {s : State} {m : MethodId} {args : Array Value} {below : List Frame} {meth : Method} {c : Code} {E : EE} {b : Nat} {MC : Mem} {TC : Int64} {TM : Int64} {res : Int32 × Mem} (X : CX E p s m args c cX8_least 7 RX8) (hr : meth.sig.returnType = (some .int)) (hlk : meth.locks = false)   {k34 : Int32 → Int32 → Int32 → Int32 → Int32 → Mem → Option (Int32 × Mem)} (hk34 : ∀ (x1 : Int32) (x2 : Int32) (x3 : Int32) (x4 : Int32) (x5 : Int32) (M : Mem), k34 x1 x2 x3 x4 x5 M = some res → ∀ (H : Heap) (locs : List Loc) (ls : Array Slot), WW E b MC TC M TM s H locs → lv_has ls 7 [(0, .ref (b + 197)), (1, .int x1), (2, .int x2), (3, .int x3), (4, .int x4), (5, .int x5)] → W p l e rmX8_least s m args below meth c H locs 0 0 (MQ below (va_Qi (fun x (_ : Unit) => x = res.1) (fun _ t => PW E b MC TC res.2 TM t) (AA b)) args s 0 0 (AA b)) (F0 m 34 ls [])) : ∀ (x1 : Int32) (x2 : Int32) (x3 : Int32) (x4 : Int32) (x5 : Int32) (y0 : Int32) (M : Mem), gX8_least_115 k34 x1 x2 x3 x4 x5 y0 M = some res → ∀ (H : Heap) (locs : List Loc) (ls : Array Slot), WW E b MC TC M TM s H locs → lv_has ls 7 [(0, .ref (b + 197)), (1, .int x1), (2, .int x2), (3, .int x3), (4, .int x4), (5, .int x5)] → W p l e rmX8_least s m args below meth c H locs 0 0 (MQ below (va_Qi (fun x (_ : Unit) => x = res.1) (fun _ t => PW E b MC TC res.2 TM t) (AA b)) args s 0 0 (AA b)) (F0 m 115 ls [.int y0]) := by
  have hx := X.1
  have hb := X.2.1
  intro x1 x2 x3 x4 x5 y0 M hf H locs ls hw hl
  rw [gX8_least_115] at hf
  refine lv_istore (lv' := [(6, .int y0), (0, .ref (b + 197)), (1, .int x1), (2, .int x2), (3, .int x3), (4, .int x4), (5, .int x5)]) hx hb dX8_least_115 hl (by decide) rfl (fun ls hl => ?_)
  refine lv_iload hx hb dX8_least_117 (lv_at hl 0 rfl) ?_
  refine lv_if_eq (tgt := 130) hx hb dX8_least_119 (by decide) (fun c17 => ?_) (fun c17 => ?_)
  · replace hf := (if_pos c17).symm.trans hf
    refine lv_iload hx hb dX8_least_130 (lv_at hl 5 rfl) ?_
    exact tX8_least_132 X hr hlk hk34 x1 x2 x3 x5 x4 M hf H locs ls hw (lv_sub hl [1, 2, 3, 4, 6] rfl)
  · replace hf := (if_neg c17).symm.trans hf
    refine lv_iload hx hb dX8_least_122 (lv_at hl 6 rfl) ?_
    obtain ⟨u19, q20, hf⟩ := ob hf
    refine cSi (As := [.int x5]) X hw (ctX8_bits l E b  q20) ⟨mw_973, mw_974, mw_61, mw_975⟩ hd_X8_bits ⟨Nat.le_of_ble_eq_true rfl, Nat.le_of_ble_eq_true rfl, rfl, rfl⟩ rfl hl.1 rfl (Nat.le_of_ble_eq_true rfl) dX8_least_124 (fun H locs hw => ?_)
    refine lv_goto (tgt := 132) hx hb dX8_least_127 (by decide) ?_
    exact tX8_least_132 X hr hlk hk34 x1 x2 x3 x5 u19 M hf H locs ls hw (lv_sub hl [1, 2, 3, 4, 6] rfl)
set_option maxHeartbeats 4000000 in
set_option maxRecDepth 100000 in
theorem tX8_least_114 {p : Program} {l : Launch} {e : Env} {s : State} {m : MethodId} {args : Array Value} {below : List Frame} {meth : Method} {c : Code} {E : EE} {b : Nat} {MC : Mem} {TC : Int64} {TM : Int64} {res : Int32 × Mem} (X : CX E p s m args c cX8_least 7 RX8) (hr : meth.sig.returnType = (some .int)) (hlk : meth.locks = false)   {k34 : Int32 → Int32 → Int32 → Int32 → Int32 → Mem → Option (Int32 × Mem)} (hk34 : ∀ (x1 : Int32) (x2 : Int32) (x3 : Int32) (x4 : Int32) (x5 : Int32) (M : Mem), k34 x1 x2 x3 x4 x5 M = some res → ∀ (H : Heap) (locs : List Loc) (ls : Array Slot), WW E b MC TC M TM s H locs → lv_has ls 7 [(0, .ref (b + 197)), (1, .int x1), (2, .int x2), (3, .int x3), (4, .int x4), (5, .int x5)] → W p l e rmX8_least s m args below meth c H locs 0 0 (MQ below (va_Qi (fun x (_ : Unit) => x = res.1) (fun _ t => PW E b MC TC res.2 TM t) (AA b)) args s 0 0 (AA b)) (F0 m 34 ls [])) : ∀ (x1 : Int32) (x2 : Int32) (x3 : Int32) (x4 : Int32) (x5 : Int32) (M : Mem), gX8_least_114 k34 x1 x2 x3 x4 x5 M = some res → ∀ (H : Heap) (locs : List Loc) (ls : Array Slot), WW E b MC TC M TM s H locs → lv_has ls 7 [(0, .ref (b + 197)), (1, .int x1), (2, .int x2), (3, .int x3), (4, .int x4), (5, .int x5)] → W p l e rmX8_least s m args below meth c H locs 0 0 (MQ below (va_Qi (fun x (_ : Unit) => x = res.1) (fun _ t => PW E b MC TC res.2 TM t) (AA b)) args s 0 0 (AA b)) (F0 m 114 ls []) := by
  have hx := X.1
  have hb := X.2.1
  intro x1 x2 x3 x4 x5 M hf H locs ls hw hl
  rw [gX8_least_114] at hf
  refine lv_iconst (v := 0) hx hb dX8_least_114 (by decide) ?_
  exact tX8_least_115 X hr hlk hk34 x1 x2 x3 x4 x5 0 M hf H locs ls hw (lv_sub hl [0, 1, 2, 3, 4, 5] rfl)
set_option maxHeartbeats 4000000 in
set_option maxRecDepth 100000 in
theorem tX8_least_110 {p : Program} {l : Launch} {e : Env} {s : State} {m : MethodId} {args : Array Value} {below : List Frame} {meth : Method} {c : Code} {E : EE} {b : Nat} {MC : Mem} {TC : Int64} {TM : Int64} {res : Int32 × Mem} (X : CX E p s m args c cX8_least 7 RX8) (hr : meth.sig.returnType = (some .int)) (hlk : meth.locks = false)   {k34 : Int32 → Int32 → Int32 → Int32 → Int32 → Mem → Option (Int32 × Mem)} (hk34 : ∀ (x1 : Int32) (x2 : Int32) (x3 : Int32) (x4 : Int32) (x5 : Int32) (M : Mem), k34 x1 x2 x3 x4 x5 M = some res → ∀ (H : Heap) (locs : List Loc) (ls : Array Slot), WW E b MC TC M TM s H locs → lv_has ls 7 [(0, .ref (b + 197)), (1, .int x1), (2, .int x2), (3, .int x3), (4, .int x4), (5, .int x5)] → W p l e rmX8_least s m args below meth c H locs 0 0 (MQ below (va_Qi (fun x (_ : Unit) => x = res.1) (fun _ t => PW E b MC TC res.2 TM t) (AA b)) args s 0 0 (AA b)) (F0 m 34 ls [])) : ∀ (x1 : Int32) (x2 : Int32) (x3 : Int32) (x4 : Int32) (x5 : Int32) (M : Mem), gX8_least_110 k34 x1 x2 x3 x4 x5 M = some res → ∀ (H : Heap) (locs : List Loc) (ls : Array Slot), WW E b MC TC M TM s H locs → lv_has ls 7 [(0, .ref (b + 197)), (1, .int x1), (2, .int x2), (3, .int x3), (4, .int x4), (5, .int x5)] → W p l e rmX8_least s m args below meth c H locs 0 0 (MQ below (va_Qi (fun x (_ : Unit) => x = res.1) (fun _ t => PW E b MC TC res.2 TM t) (AA b)) args s 0 0 (AA b)) (F0 m 110 ls []) := by
  have hx := X.1
  have hb := X.2.1
  intro x1 x2 x3 x4 x5 M hf H locs ls hw hl
  rw [gX8_least_110] at hf
  refine lv_iconst (v := 1) hx hb dX8_least_110 (by decide) ?_
  refine lv_goto (tgt := 115) hx hb dX8_least_111 (by decide) ?_
  exact tX8_least_115 X hr hlk hk34 x1 x2 x3 x4 x5 1 M hf H locs ls hw (lv_sub hl [0, 1, 2, 3, 4, 5] rfl)
set_option maxHeartbeats 4000000 in
set_option maxRecDepth 100000 in
theorem tX8_least_78 {p : Program} {l : Launch} {e : Env} {s : State} {m : MethodId} {args : Array Value} {below : List Frame} {meth : Method} {c : Code} {E : EE} {b : Nat} {MC : Mem} {TC : Int64} {TM : Int64} {res : Int32 × Mem} (X : CX E p s m args c cX8_least 7 RX8) (hr : meth.sig.returnType = (some .int)) (hlk : meth.locks = false)   {k34 : Int32 → Int32 → Int32 → Int32 → Int32 → Mem → Option (Int32 × Mem)} (hk34 : ∀ (x1 : Int32) (x2 : Int32) (x3 : Int32) (x4 : Int32) (x5 : Int32) (M : Mem), k34 x1 x2 x3 x4 x5 M = some res → ∀ (H : Heap) (locs : List Loc) (ls : Array Slot), WW E b MC TC M TM s H locs → lv_has ls 7 [(0, .ref (b + 197)), (1, .int x1), (2, .int x2), (3, .int x3), (4, .int x4), (5, .int x5)] → W p l e rmX8_least s m args below meth c H locs 0 0 (MQ below (va_Qi (fun x (_ : Unit) => x = res.1) (fun _ t => PW E b MC TC res.2 TM t) (AA b)) args s 0 0 (AA b)) (F0 m 34 ls [])) {k50 : Int32 → Int32 → Int32 → Int32 → Int32 → Int32 → Mem → Option (Int32 × Mem)} (hk50 : ∀ (x1 : Int32) (x2 : Int32) (x3 : Int32) (x4 : Int32) (x5 : Int32) (x6 : Int32) (M : Mem), k50 x1 x2 x3 x4 x5 x6 M = some res → ∀ (H : Heap) (locs : List Loc) (ls : Array Slot), WW E b MC TC M TM s H locs → lv_has ls 7 [(0, .ref (b + 197)), (1, .int x1), (2, .int x2), (3, .int x3), (4, .int x4), (5, .int x5), (6, .int x6)] → W p l e rmX8_least s m args below meth c H locs 0 0 (MQ below (va_Qi (fun x (_ : Unit) => x = res.1) (fun _ t => PW E b MC TC res.2 TM t) (AA b)) args s 0 0 (AA b)) (F0 m 50 ls [])) : ∀ (x1 : Int32) (x2 : Int32) (x3 : Int32) (x4 : Int32) (x5 : Int32) (x6 : Int32) (y0 : Int32) (M : Mem), gX8_least_78 k34 k50 x1 x2 x3 x4 x5 x6 y0 M = some res → ∀ (H : Heap) (locs : List Loc) (ls : Array Slot), WW E b MC TC M TM s H locs → lv_has ls 7 [(0, .ref (b + 197)), (1, .int x1), (2, .int x2), (3, .int x3), (4, .int x4), (5, .int x5), (6, .int x6)] → W p l e rmX8_least s m args below meth c H locs 0 0 (MQ below (va_Qi (fun x (_ : Unit) => x = res.1) (fun _ t => PW E b MC TC res.2 TM t) (AA b)) args s 0 0 (AA b)) (F0 m 78 ls [.int y0, .ref (b + 197)]) := by
  have hx := X.1
  have hb := X.2.1
  intro x1 x2 x3 x4 x5 x6 y0 M hf H locs ls hw hl
  rw [gX8_least_78] at hf
  obtain ⟨u30, q31, hf⟩ := ob hf
  refine cVv (As := [.int y0]) X hw (ctX8_growsTried l E b  q31) ⟨mw_958, mw_960, mw_46, mw_61, mw_961⟩ hd_X8_growsTried ⟨Nat.le_of_ble_eq_true rfl, Nat.le_of_ble_eq_true rfl, rfl, rfl⟩ (kdk kk_197 (by decide)) (ce_X8 E _ _ _ _ kk_197) (show vwCl[8]? = some (RX8, TX8, 31) from rfl) rfl hl.1 rfl (Nat.le_of_ble_eq_true rfl) dX8_least_78 (fun H locs hw => ?_)
  obtain ⟨z32, ez32⟩ : ∃ y : Int32, y = x6 + 1 := ⟨_, rfl⟩
  replace hf := nmb hf ez32
  refine lv_iinc (v := z32) (lv' := [(6, .int z32), (0, .ref (b + 197)), (1, .int x1), (2, .int x2), (3, .int x3), (4, .int x4), (5, .int x5)]) hx hb dX8_least_81 hl (k := 6) rfl (by rw [ez32]; rfl) (by decide) rfl (fun ls hl => ?_)
  refine lv_goto (tgt := 50) hx hb dX8_least_84 (by decide) ?_
  exact hk50 x1 x2 x3 x4 x5 z32 u30 hf H locs ls hw (lv_sub hl [1, 2, 3, 4, 5, 6, 0] rfl)
set_option maxHeartbeats 4000000 in
set_option maxRecDepth 100000 in
theorem tX8_least_50 {p : Program} {l : Launch} {e : Env} {s : State} {m : MethodId} {args : Array Value} {below : List Frame} {meth : Method} {c : Code} {E : EE} {b : Nat} {MC : Mem} {TC : Int64} {TM : Int64} {res : Int32 × Mem} (X : CX E p s m args c cX8_least 7 RX8) (hr : meth.sig.returnType = (some .int)) (hlk : meth.locks = false)   {k34 : Int32 → Int32 → Int32 → Int32 → Int32 → Mem → Option (Int32 × Mem)} (hk34 : ∀ (x1 : Int32) (x2 : Int32) (x3 : Int32) (x4 : Int32) (x5 : Int32) (M : Mem), k34 x1 x2 x3 x4 x5 M = some res → ∀ (H : Heap) (locs : List Loc) (ls : Array Slot), WW E b MC TC M TM s H locs → lv_has ls 7 [(0, .ref (b + 197)), (1, .int x1), (2, .int x2), (3, .int x3), (4, .int x4), (5, .int x5)] → W p l e rmX8_least s m args below meth c H locs 0 0 (MQ below (va_Qi (fun x (_ : Unit) => x = res.1) (fun _ t => PW E b MC TC res.2 TM t) (AA b)) args s 0 0 (AA b)) (F0 m 34 ls [])) : ∀ (n : Nat) (x1 : Int32) (x2 : Int32) (x3 : Int32) (x4 : Int32) (x5 : Int32) (x6 : Int32) (M : Mem), gX8_least_50 k34 n x1 x2 x3 x4 x5 x6 M = some res → ∀ (H : Heap) (locs : List Loc) (ls : Array Slot), WW E b MC TC M TM s H locs → lv_has ls 7 [(0, .ref (b + 197)), (1, .int x1), (2, .int x2), (3, .int x3), (4, .int x4), (5, .int x5), (6, .int x6)] → W p l e rmX8_least s m args below meth c H locs 0 0 (MQ below (va_Qi (fun x (_ : Unit) => x = res.1) (fun _ t => PW E b MC TC res.2 TM t) (AA b)) args s 0 0 (AA b)) (F0 m 50 ls []) := by
  have hx := X.1
  have hb := X.2.1
  intro n
  induction n with
  | zero =>
    intro x1 x2 x3 x4 x5 x6 M hf
    cases (show (none : Option (Int32 × Mem)) = some res from hf)
  | succ n ih =>
    intro x1 x2 x3 x4 x5 x6 M hf H locs ls hw hl
    rw [gX8_least_50] at hf
    refine lv_iload hx hb dX8_least_50 (lv_at hl 6 rfl) ?_
    refine lv_iload_n hx hb dX8_least_52 rfl (lv_at hl 3 rfl) ?_
    refine lv_icmp_ge (tgt := 87) hx hb dX8_least_53 (by decide) (fun c13 => ?_) (fun c13 => ?_)
    · replace hf := (if_pos c13).symm.trans hf
      refine lv_aload_n hx hb dX8_least_87 rfl (lv_at hl 0 rfl) ?_
      refine lv_iload_n hx hb dX8_least_88 rfl (lv_at hl 2 rfl) ?_
      obtain ⟨u14, q15, hf⟩ := ob hf
      refine cVi (As := [.int x2]) X hw (ctX8_isMost l E b  q15) ⟨mw_969, mw_971, mw_47, mw_61, mw_972⟩ hd_X8_isMost ⟨Nat.le_of_ble_eq_true rfl, Nat.le_of_ble_eq_true rfl, rfl, rfl⟩ (kdk kk_197 (by decide)) (ce_X8 E _ _ _ _ kk_197) (show vwCl[8]? = some (RX8, TX8, 31) from rfl) rfl hl.1 rfl (Nat.le_of_ble_eq_true rfl) dX8_least_89 (fun H locs hw => ?_)
      refine lv_if_eq (tgt := 114) hx hb dX8_least_92 (by decide) (fun c16 => ?_) (fun c16 => ?_)
      · replace hf := (if_pos c16).symm.trans hf
        exact tX8_least_114 X hr hlk hk34 x1 x2 x3 x4 x5 M hf H locs ls hw (lv_sub hl [0, 1, 2, 3, 4, 5] rfl)
      · replace hf := (if_neg c16).symm.trans hf
        refine lv_iload hx hb dX8_least_95 (lv_at hl 4 rfl) ?_
        refine lv_if_lt (tgt := 110) hx hb dX8_least_97 (by decide) (fun c21 => ?_) (fun c21 => ?_)
        · replace hf := (if_pos c21).symm.trans hf
          exact tX8_least_110 X hr hlk hk34 x1 x2 x3 x4 x5 M hf H locs ls hw (lv_sub hl [0, 1, 2, 3, 4, 5] rfl)
        · replace hf := (if_neg c21).symm.trans hf
          refine lv_iload hx hb dX8_least_100 (lv_at hl 5 rfl) ?_
          obtain ⟨u22, q23, hf⟩ := ob hf
          refine cSi (As := [.int x5]) X hw (ctX8_bits l E b  q23) ⟨mw_973, mw_974, mw_61, mw_975⟩ hd_X8_bits ⟨Nat.le_of_ble_eq_true rfl, Nat.le_of_ble_eq_true rfl, rfl, rfl⟩ rfl hl.1 rfl (Nat.le_of_ble_eq_true rfl) dX8_least_102 (fun H locs hw => ?_)
          refine lv_iload hx hb dX8_least_105 (lv_at hl 4 rfl) ?_
          refine lv_icmp_ge (tgt := 114) hx hb dX8_least_107 (by decide) (fun c24 => ?_) (fun c24 => ?_)
          · replace hf := (if_pos c24).symm.trans hf
            exact tX8_least_114 X hr hlk hk34 x1 x2 x3 x4 x5 M hf H locs ls hw (lv_sub hl [0, 1, 2, 3, 4, 5] rfl)
          · replace hf := (if_neg c24).symm.trans hf
            exact tX8_least_110 X hr hlk hk34 x1 x2 x3 x4 x5 M hf H locs ls hw (lv_sub hl [0, 1, 2, 3, 4, 5] rfl)
    · replace hf := (if_neg c13).symm.trans hf
      refine lv_aload_n hx hb dX8_least_56 rfl (lv_at hl 0 rfl) ?_
      refine lv_iload hx hb dX8_least_57 (lv_at hl 5 rfl) ?_
      refine lv_iload hx hb dX8_least_59 (lv_at hl 6 rfl) ?_
      obtain ⟨u25, q26, hf⟩ := ob hf
      refine cSi (As := [.int x5, .int x6]) X hw (ctX8_has l E b  q26) ⟨mw_966, mw_967, mw_61, mw_968⟩ hd_X8_has ⟨Nat.le_of_ble_eq_true rfl, Nat.le_of_ble_eq_true rfl, rfl, rfl⟩ rfl hl.1 rfl (Nat.le_of_ble_eq_true rfl) dX8_least_61 (fun H locs hw => ?_)
      refine lv_if_eq (tgt := 71) hx hb dX8_least_64 (by decide) (fun c27 => ?_) (fun c27 => ?_)
      · replace hf := (if_pos c27).symm.trans hf
        refine lv_aload_n hx hb dX8_least_71 rfl (lv_at hl 0 rfl) ?_
        refine lv_iload_n hx hb dX8_least_72 rfl (lv_at hl 1 rfl) ?_
        refine lv_iload hx hb dX8_least_73 (lv_at hl 6 rfl) ?_
        obtain ⟨u28, q29, hf⟩ := ob hf
        refine cVi (As := [.int x1, .int x6]) X hw (ctX8_thinks l E b  q29) ⟨mw_910, mw_912, mw_42, mw_61, mw_913⟩ hd_X8_thinks ⟨Nat.le_of_ble_eq_true rfl, Nat.le_of_ble_eq_true rfl, rfl, rfl⟩ (kdk kk_197 (by decide)) (ce_X8 E _ _ _ _ kk_197) (show vwCl[8]? = some (RX8, TX8, 31) from rfl) rfl hl.1 rfl (Nat.le_of_ble_eq_true rfl) dX8_least_75 (fun H locs hw => ?_)
        exact tX8_least_78 X hr hlk hk34 ih x1 x2 x3 x4 x5 x6 u28 M hf H locs ls hw (lv_sub hl [0, 1, 2, 3, 4, 5, 6] rfl)
      · replace hf := (if_neg c27).symm.trans hf
        refine lv_iload_n hx hb dX8_least_67 rfl (lv_at hl 2 rfl) ?_
        refine lv_goto (tgt := 78) hx hb dX8_least_68 (by decide) ?_
        exact tX8_least_78 X hr hlk hk34 ih x1 x2 x3 x4 x5 x6 x2 M hf H locs ls hw (lv_sub hl [0, 1, 2, 3, 4, 5, 6] rfl)
set_option maxHeartbeats 4000000 in
set_option maxRecDepth 100000 in
theorem tX8_least_34 {p : Program} {l : Launch} {e : Env} {s : State} {m : MethodId} {args : Array Value} {below : List Frame} {meth : Method} {c : Code} {E : EE} {b : Nat} {MC : Mem} {TC : Int64} {TM : Int64} {res : Int32 × Mem} (X : CX E p s m args c cX8_least 7 RX8) (hr : meth.sig.returnType = (some .int)) (hlk : meth.locks = false)    : ∀ (n : Nat) (x1 : Int32) (x2 : Int32) (x3 : Int32) (x4 : Int32) (x5 : Int32) (M : Mem), gX8_least_34 n x1 x2 x3 x4 x5 M = some res → ∀ (H : Heap) (locs : List Loc) (ls : Array Slot), WW E b MC TC M TM s H locs → lv_has ls 7 [(0, .ref (b + 197)), (1, .int x1), (2, .int x2), (3, .int x3), (4, .int x4), (5, .int x5)] → W p l e rmX8_least s m args below meth c H locs 0 0 (MQ below (va_Qi (fun x (_ : Unit) => x = res.1) (fun _ t => PW E b MC TC res.2 TM t) (AA b)) args s 0 0 (AA b)) (F0 m 34 ls []) := by
  have hx := X.1
  have hb := X.2.1
  intro n
  induction n with
  | zero =>
    intro x1 x2 x3 x4 x5 M hf
    cases (show (none : Option (Int32 × Mem)) = some res from hf)
  | succ n ih =>
    intro x1 x2 x3 x4 x5 M hf H locs ls hw hl
    rw [gX8_least_34] at hf
    refine lv_iload hx hb dX8_least_34 (lv_at hl 5 rfl) ?_
    refine lv_iconst (v := 1) hx hb dX8_least_36 (by decide) ?_
    refine lv_iload_n hx hb dX8_least_37 rfl (lv_at hl 3 rfl) ?_
    refine lv_ishl hx hb dX8_least_38 ?_
    refine lv_icmp_ge (tgt := 140) hx hb dX8_least_39 (by decide) (fun c10 => ?_) (fun c10 => ?_)
    · replace hf := (if_pos c10).symm.trans hf
      refine lv_iload hx hb dX8_least_140 (lv_at hl 4 rfl) ?_
      replace hf := Option.some.inj hf
      subst hf
      exact eI X hw hr hlk dX8_least_142
    · replace hf := (if_neg c10).symm.trans hf
      refine lv_aload_n hx hb dX8_least_42 rfl (lv_at hl 0 rfl) ?_
      refine lv_iload_n hx hb dX8_least_43 rfl (lv_at hl 1 rfl) ?_
      obtain ⟨u11, q12, hf⟩ := ob hf
      refine cVv (As := [.int x1]) X hw (ctX8_asItIs l E b  q12) ⟨mw_954, mw_956, mw_45, mw_61, mw_957⟩ hd_X8_asItIs ⟨Nat.le_of_ble_eq_true rfl, Nat.le_of_ble_eq_true rfl, rfl, rfl⟩ (kdk kk_197 (by decide)) (ce_X8 E _ _ _ _ kk_197) (show vwCl[8]? = some (RX8, TX8, 31) from rfl) rfl hl.1 rfl (Nat.le_of_ble_eq_true rfl) dX8_least_44 (fun H locs hw => ?_)
      refine lv_iconst (v := 0) hx hb dX8_least_47 (by decide) ?_
      refine lv_istore (lv' := [(6, .int 0), (0, .ref (b + 197)), (1, .int x1), (2, .int x2), (3, .int x3), (4, .int x4), (5, .int x5)]) hx hb dX8_least_48 hl (by decide) rfl (fun ls hl => ?_)
      exact tX8_least_50 X hr hlk ih FU x1 x2 x3 x4 x5 0 u11 hf H locs ls hw (lv_sub hl [1, 2, 3, 4, 5, 6, 0] rfl)
set_option maxHeartbeats 4000000 in
set_option maxRecDepth 100000 in
theorem ctX8_least (l : Launch) (E : EE) (b : Nat) {MC : Mem} {TC : Int64} {TM : Int64} {x1 : Int32} {x2 : Int32} {x3 : Int32} {M : Mem} {res : Int32 × Mem}  (hf : gX8_least x1 x2 x3 M = some res) : MetI l E b yX8_least (.code yX8_least cX8_least 7 (some .int)) rmX8_least [.ref (b + 197), .int x1, .int x2, .int x3] MC TC M TM res.1 MC TC res.2 TM := by
  refine Met.ofW (cc := cX8_least) (maxL := 7) (ret := (some .int)) (by decide) rfl ?_
  intro p e s m args below meth c s₁ B hml hv
  obtain ⟨rfl, hP, hK⟩ := hv
  have hx := B.exec
  have hb := B.bytes
  have X : CX E p s m _ c cX8_least 7 RX8 := ⟨hx, hb, hml, findClass_of_methodNamed B.named, fun w h => atoms_spec (ws := _ :: wt) B.pre w (List.mem_cons_of_mem _ h), hK⟩
  have hr := B.returns
  have hlk := B.notSynchronized
  have hw : WW E b MC TC M TM s s.heap [] := ⟨hP, va_S.rf⟩
  have hl := lv_entry ([.ref (b + 197), .int x1, .int x2, .int x3]) (n := 7) (Nat.le_of_ble_eq_true rfl)
  rw [lg_entry_eq]
  generalize (lg_sl ([.ref (b + 197), .int x1, .int x2, .int x3]) ++ List.replicate (7 - (lg_sl ([.ref (b + 197), .int x1, .int x2, .int x3])).length) Slot.unset).toArray = ls at hl ⊢
  have hl : lv_has ls 7 [(0, .ref (b + 197)), (1, .int x1), (2, .int x2), (3, .int x3)] := hl
  obtain ⟨H, hH⟩ : ∃ H, H = s.heap := ⟨_, rfl⟩
  obtain ⟨locs, hL⟩ : ∃ L : List Loc, L = [] := ⟨_, rfl⟩
  rw [← hH, ← hL] at hw
  suffices hg : W p l e rmX8_least s m _ below meth c H locs 0 0 (MQ below (va_Qi (fun x (_ : Unit) => x = res.1) (fun _ t => PW E b MC TC res.2 TM t) (AA b)) _ s 0 0 (AA b)) (F0 m 0 ls []) by rw [hH, hL] at hg; exact hg
  clear hH hL
  rw [gX8_least] at hf
  refine lv_aload_n hx hb dX8_least_0 rfl (lv_at hl 0 rfl) ?_
  refine lv_iload_n hx hb dX8_least_1 rfl (lv_at hl 1 rfl) ?_
  obtain ⟨u1, q2, hf⟩ := ob hf
  refine cVi (As := [.int x1]) X hw (ctX8_isOne l E b  q2) ⟨mw_868, mw_870, mw_37, mw_61, mw_871⟩ hd_X8_isOne ⟨Nat.le_of_ble_eq_true rfl, Nat.le_of_ble_eq_true rfl, rfl, rfl⟩ (kdk kk_197 (by decide)) (ce_X8 E _ _ _ _ kk_197) (show vwCl[8]? = some (RX8, TX8, 31) from rfl) rfl hl.1 rfl (Nat.le_of_ble_eq_true rfl) dX8_least_2 (fun H locs hw => ?_)
  refine lv_if_eq (tgt := 25) hx hb dX8_least_5 (by decide) (fun c3 => ?_) (fun c3 => ?_)
  · replace hf := (if_pos c3).symm.trans hf
    refine lv_iconst (v := (-1)) hx hb dX8_least_25 (by decide) ?_
    replace hf := Option.some.inj hf
    subst hf
    exact eI X hw hr hlk dX8_least_26
  · replace hf := (if_neg c3).symm.trans hf
    refine lv_iload_n hx hb dX8_least_8 rfl (lv_at hl 2 rfl) ?_
    obtain ⟨u4, q5, hf⟩ := ob hf
    refine cSi (As := [.int x2]) X hw (ctX8_isThought l E b  q5) ⟨mw_895, mw_896, mw_61, mw_897⟩ hd_X8_isThought ⟨Nat.le_of_ble_eq_true rfl, Nat.le_of_ble_eq_true rfl, rfl, rfl⟩ rfl hl.1 rfl (Nat.le_of_ble_eq_true rfl) dX8_least_9 (fun H locs hw => ?_)
    refine lv_if_eq (tgt := 25) hx hb dX8_least_12 (by decide) (fun c6 => ?_) (fun c6 => ?_)
    · replace hf := (if_pos c6).symm.trans hf
      refine lv_iconst (v := (-1)) hx hb dX8_least_25 (by decide) ?_
      replace hf := Option.some.inj hf
      subst hf
      exact eI X hw hr hlk dX8_least_26
    · replace hf := (if_neg c6).symm.trans hf
      refine lv_iload_n hx hb dX8_least_15 rfl (lv_at hl 3 rfl) ?_
      refine lv_iconst (v := 1) hx hb dX8_least_16 (by decide) ?_
      refine lv_bipush (v := 8) hx hb dX8_least_17 (by decide) ?_
      obtain ⟨u7, q8, hf⟩ := ob hf
      refine cSi (As := [.int x3, .int 1, .int 8]) X hw (ctX8_in l E b  q8) ⟨mw_819, mw_820, mw_61, mw_821⟩ hd_X8_in ⟨Nat.le_of_ble_eq_true rfl, Nat.le_of_ble_eq_true rfl, rfl, rfl⟩ rfl hl.1 rfl (Nat.le_of_ble_eq_true rfl) dX8_least_19 (fun H locs hw => ?_)
      refine lv_if_ne (tgt := 27) hx hb dX8_least_22 (by decide) (fun c9 => ?_) (fun c9 => ?_)
      · replace hf := (if_neg c9).symm.trans hf
        refine lv_bipush (v := (-9)) hx hb dX8_least_27 (by decide) ?_
        refine lv_istore (lv' := [(4, .int ((-9))), (0, .ref (b + 197)), (1, .int x1), (2, .int x2), (3, .int x3)]) hx hb dX8_least_29 hl (by decide) rfl (fun ls hl => ?_)
        refine lv_iconst (v := 0) hx hb dX8_least_31 (by decide) ?_
        refine lv_istore (lv' := [(5, .int 0), (4, .int ((-9))), (0, .ref (b + 197)), (1, .int x1), (2, .int x2), (3, .int x3)]) hx hb dX8_least_32 hl (by decide) rfl (fun ls hl => ?_)
        exact tX8_least_34 X hr hlk FU x1 x2 x3 ((-9)) 0 M hf H locs ls hw (lv_sub hl [2, 3, 4, 5, 1, 0] rfl)
      · replace hf := (if_pos c9).symm.trans hf
        refine lv_iconst (v := (-1)) hx hb dX8_least_25 (by decide) ?_
        replace hf := Option.some.inj hf
        subst hf
        exact eI X hw hr hlk dX8_least_26

abbrev rmX8_thoughtsOf : Room := { frames := 1, cells := 0, slots := 0, locals := 22 }
theorem hd_X8_thoughtsOf : Hd yX8_thoughtsOf RX8 1 := by decide +kernel
def gX8_thoughtsOf_54  (k4 : Int32 → Int32 → Int32 → Mem → Option (Int32)) (x1 : Int32) (x2 : Int32) (x3 : Int32) (M : Mem) : Option (Int32) := (some (x3 + 1)).bind fun z37 => k4 x1 x2 z37 M
def gX8_thoughtsOf_15  (k4 : Int32 → Int32 → Int32 → Mem → Option (Int32)) : Nat → Int32 → Int32 → Int32 → Int32 → Mem → Option (Int32)
  | 0, _, _, _, _, _ => none
  | n + 1, x1, x2, x3, x4, M => (ldA 1233 (M 201) (2 + x3)).bind fun v34 => if v34 ≤ x4 then (gX8_thoughtsOf_54 k4 x1 x2 x3 M) else ((gX8_has x1 x3).bind fun u38 => if u38 = 0 then (gX8_thoughtsOf_54 k4 x1 x2 x3 M) else ((gX8_layerOf x3 x4 M).bind fun u41 => (some (x2 ||| (1 <<< (u41 &&& 31)))).bind fun z43 => (some (x4 + 1)).bind fun z44 => (gX8_thoughtsOf_15 k4 n) x1 z43 x3 z44 M))
def gX8_thoughtsOf_4   : Nat → Int32 → Int32 → Int32 → Mem → Option (Int32)
  | 0, _, _, _, _ => none
  | n + 1, x1, x2, x3, M => if (M 197 0) ≤ x3 then (some (x2)) else (gX8_thoughtsOf_15 (gX8_thoughtsOf_4 n) FU x1 x2 x3 0 M)
def gX8_thoughtsOf (x1 : Int32) (M : Mem) : Option (Int32) := gX8_thoughtsOf_4 FU x1 0 0 M
set_option maxHeartbeats 4000000 in
set_option maxRecDepth 100000 in
theorem tX8_thoughtsOf_54 {p : Program} {l : Launch} {e : Env} {s : State} {m : MethodId} {args : Array Value} {below : List Frame} {meth : Method} {c : Code} {E : EE} {b : Nat} {MC : Mem} {TC : Int64} {TM : Int64} {res : Int32} (X : CX E p s m args c cX8_thoughtsOf 5 RX8) (hr : meth.sig.returnType = (some .int)) (hlk : meth.locks = false)   {k4 : Int32 → Int32 → Int32 → Mem → Option (Int32)} (hk4 : ∀ (x1 : Int32) (x2 : Int32) (x3 : Int32) (M : Mem), k4 x1 x2 x3 M = some res → ∀ (H : Heap) (locs : List Loc) (ls : Array Slot), WW E b MC TC M TM s H locs → lv_has ls 5 [(0, .ref (b + 197)), (1, .int x1), (2, .int x2), (3, .int x3)] → W p l e rmX8_thoughtsOf s m args below meth c H locs 0 0 (MQ below (va_Qi (fun x (_ : Unit) => x = res) (fun _ t => PW E b MC TC M TM t) (AA b)) args s 0 0 (AA b)) (F0 m 4 ls [])) : ∀ (x1 : Int32) (x2 : Int32) (x3 : Int32) (M : Mem), gX8_thoughtsOf_54 k4 x1 x2 x3 M = some res → ∀ (H : Heap) (locs : List Loc) (ls : Array Slot), WW E b MC TC M TM s H locs → lv_has ls 5 [(0, .ref (b + 197)), (1, .int x1), (2, .int x2), (3, .int x3)] → W p l e rmX8_thoughtsOf s m args below meth c H locs 0 0 (MQ below (va_Qi (fun x (_ : Unit) => x = res) (fun _ t => PW E b MC TC M TM t) (AA b)) args s 0 0 (AA b)) (F0 m 54 ls []) := by
  have hx := X.1
  have hb := X.2.1
  intro x1 x2 x3 M hf H locs ls hw hl
  rw [gX8_thoughtsOf_54] at hf
  obtain ⟨z37, ez37⟩ : ∃ y : Int32, y = x3 + 1 := ⟨_, rfl⟩
  replace hf := nmb hf ez37
  refine lv_iinc (v := z37) (lv' := [(3, .int z37), (0, .ref (b + 197)), (1, .int x1), (2, .int x2)]) hx hb dX8_thoughtsOf_54 hl (k := 3) rfl (by rw [ez37]; rfl) (by decide) rfl (fun ls hl => ?_)
  refine lv_goto (tgt := 4) hx hb dX8_thoughtsOf_57 (by decide) ?_
  exact hk4 x1 x2 z37 M hf H locs ls hw (lv_sub hl [1, 2, 3, 0] rfl)
set_option maxHeartbeats 4000000 in
set_option maxRecDepth 100000 in
theorem tX8_thoughtsOf_15 {p : Program} {l : Launch} {e : Env} {s : State} {m : MethodId} {args : Array Value} {below : List Frame} {meth : Method} {c : Code} {E : EE} {b : Nat} {MC : Mem} {TC : Int64} {TM : Int64} {res : Int32} (X : CX E p s m args c cX8_thoughtsOf 5 RX8) (hr : meth.sig.returnType = (some .int)) (hlk : meth.locks = false)   {k4 : Int32 → Int32 → Int32 → Mem → Option (Int32)} (hk4 : ∀ (x1 : Int32) (x2 : Int32) (x3 : Int32) (M : Mem), k4 x1 x2 x3 M = some res → ∀ (H : Heap) (locs : List Loc) (ls : Array Slot), WW E b MC TC M TM s H locs → lv_has ls 5 [(0, .ref (b + 197)), (1, .int x1), (2, .int x2), (3, .int x3)] → W p l e rmX8_thoughtsOf s m args below meth c H locs 0 0 (MQ below (va_Qi (fun x (_ : Unit) => x = res) (fun _ t => PW E b MC TC M TM t) (AA b)) args s 0 0 (AA b)) (F0 m 4 ls [])) : ∀ (n : Nat) (x1 : Int32) (x2 : Int32) (x3 : Int32) (x4 : Int32) (M : Mem), gX8_thoughtsOf_15 k4 n x1 x2 x3 x4 M = some res → ∀ (H : Heap) (locs : List Loc) (ls : Array Slot), WW E b MC TC M TM s H locs → lv_has ls 5 [(0, .ref (b + 197)), (1, .int x1), (2, .int x2), (3, .int x3), (4, .int x4)] → W p l e rmX8_thoughtsOf s m args below meth c H locs 0 0 (MQ below (va_Qi (fun x (_ : Unit) => x = res) (fun _ t => PW E b MC TC M TM t) (AA b)) args s 0 0 (AA b)) (F0 m 15 ls []) := by
  have hx := X.1
  have hb := X.2.1
  intro n
  induction n with
  | zero =>
    intro x1 x2 x3 x4 M hf
    cases (show (none : Option (Int32)) = some res from hf)
  | succ n ih =>
    intro x1 x2 x3 x4 M hf H locs ls hw hl
    rw [gX8_thoughtsOf_15] at hf
    refine lv_iload hx hb dX8_thoughtsOf_15 (lv_at hl 4 rfl) ?_
    refine lv_aload_n hx hb dX8_thoughtsOf_17 rfl (lv_at hl 0 rfl) ?_
    refine gt_X8 X hw 5 kk_197 rfl (by decide) mw_726 rfl dX8_thoughtsOf_18 ?_
    refine lv_iconst (v := 2) hx hb dX8_thoughtsOf_21 (by decide) ?_
    refine lv_iload_n hx hb dX8_thoughtsOf_22 rfl (lv_at hl 3 rfl) ?_
    refine lv_iadd hx hb dX8_thoughtsOf_23 ?_
    obtain ⟨v34, q35, hf⟩ := ob hf
    refine aldM X hw kdv_201 q35 dX8_thoughtsOf_24 ?_
    refine lv_icmp_ge (tgt := 54) hx hb dX8_thoughtsOf_25 (by decide) (fun c36 => ?_) (fun c36 => ?_)
    · replace hf := (if_pos c36).symm.trans hf
      exact tX8_thoughtsOf_54 X hr hlk hk4 x1 x2 x3 M hf H locs ls hw (lv_sub hl [0, 1, 2, 3] rfl)
    · replace hf := (if_neg c36).symm.trans hf
      refine lv_iload_n hx hb dX8_thoughtsOf_28 rfl (lv_at hl 1 rfl) ?_
      refine lv_iload_n hx hb dX8_thoughtsOf_29 rfl (lv_at hl 3 rfl) ?_
      obtain ⟨u38, q39, hf⟩ := ob hf
      refine cSi (As := [.int x1, .int x3]) X hw (ctX8_has l E b  q39) ⟨mw_966, mw_967, mw_61, mw_968⟩ hd_X8_has ⟨Nat.le_of_ble_eq_true rfl, Nat.le_of_ble_eq_true rfl, rfl, rfl⟩ rfl hl.1 rfl (Nat.le_of_ble_eq_true rfl) dX8_thoughtsOf_30 (fun H locs hw => ?_)
      refine lv_if_eq (tgt := 54) hx hb dX8_thoughtsOf_33 (by decide) (fun c40 => ?_) (fun c40 => ?_)
      · replace hf := (if_pos c40).symm.trans hf
        exact tX8_thoughtsOf_54 X hr hlk hk4 x1 x2 x3 M hf H locs ls hw (lv_sub hl [0, 1, 2, 3] rfl)
      · replace hf := (if_neg c40).symm.trans hf
        refine lv_iload_n hx hb dX8_thoughtsOf_36 rfl (lv_at hl 2 rfl) ?_
        refine lv_iconst (v := 1) hx hb dX8_thoughtsOf_37 (by decide) ?_
        refine lv_aload_n hx hb dX8_thoughtsOf_38 rfl (lv_at hl 0 rfl) ?_
        refine lv_iload_n hx hb dX8_thoughtsOf_39 rfl (lv_at hl 3 rfl) ?_
        refine lv_iload hx hb dX8_thoughtsOf_40 (lv_at hl 4 rfl) ?_
        obtain ⟨u41, q42, hf⟩ := ob hf
        refine cVi (As := [.int x3, .int x4]) X hw (ctX8_layerOf l E b  q42) ⟨mw_876, mw_878, mw_39, mw_61, mw_879⟩ hd_X8_layerOf ⟨Nat.le_of_ble_eq_true rfl, Nat.le_of_ble_eq_true rfl, rfl, rfl⟩ (kdk kk_197 (by decide)) (ce_X8 E _ _ _ _ kk_197) (show vwCl[8]? = some (RX8, TX8, 31) from rfl) rfl hl.1 rfl (Nat.le_of_ble_eq_true rfl) dX8_thoughtsOf_42 (fun H locs hw => ?_)
        refine lv_ishl hx hb dX8_thoughtsOf_45 ?_
        refine lv_ior hx hb dX8_thoughtsOf_46 ?_
        refine lv_topi (fun z43 ez43 => ?_)
        replace hf := nmb hf ez43
        refine lv_istore_n (lv' := [(2, .int z43), (0, .ref (b + 197)), (1, .int x1), (3, .int x3), (4, .int x4)]) hx hb dX8_thoughtsOf_47 rfl hl (by decide) rfl (fun ls hl => ?_)
        obtain ⟨z44, ez44⟩ : ∃ y : Int32, y = x4 + 1 := ⟨_, rfl⟩
        replace hf := nmb hf ez44
        refine lv_iinc (v := z44) (lv' := [(4, .int z44), (2, .int z43), (0, .ref (b + 197)), (1, .int x1), (3, .int x3)]) hx hb dX8_thoughtsOf_48 hl (k := 4) rfl (by rw [ez44]; rfl) (by decide) rfl (fun ls hl => ?_)
        refine lv_goto (tgt := 15) hx hb dX8_thoughtsOf_51 (by decide) ?_
        exact ih x1 z43 x3 z44 M hf H locs ls hw (lv_sub hl [2, 3, 1, 4, 0] rfl)
set_option maxHeartbeats 4000000 in
set_option maxRecDepth 100000 in
theorem tX8_thoughtsOf_4 {p : Program} {l : Launch} {e : Env} {s : State} {m : MethodId} {args : Array Value} {below : List Frame} {meth : Method} {c : Code} {E : EE} {b : Nat} {MC : Mem} {TC : Int64} {TM : Int64} {res : Int32} (X : CX E p s m args c cX8_thoughtsOf 5 RX8) (hr : meth.sig.returnType = (some .int)) (hlk : meth.locks = false)    : ∀ (n : Nat) (x1 : Int32) (x2 : Int32) (x3 : Int32) (M : Mem), gX8_thoughtsOf_4 n x1 x2 x3 M = some res → ∀ (H : Heap) (locs : List Loc) (ls : Array Slot), WW E b MC TC M TM s H locs → lv_has ls 5 [(0, .ref (b + 197)), (1, .int x1), (2, .int x2), (3, .int x3)] → W p l e rmX8_thoughtsOf s m args below meth c H locs 0 0 (MQ below (va_Qi (fun x (_ : Unit) => x = res) (fun _ t => PW E b MC TC M TM t) (AA b)) args s 0 0 (AA b)) (F0 m 4 ls []) := by
  have hx := X.1
  have hb := X.2.1
  intro n
  induction n with
  | zero =>
    intro x1 x2 x3 M hf
    cases (show (none : Option (Int32)) = some res from hf)
  | succ n ih =>
    intro x1 x2 x3 M hf H locs ls hw hl
    rw [gX8_thoughtsOf_4] at hf
    refine lv_iload_n hx hb dX8_thoughtsOf_4 rfl (lv_at hl 3 rfl) ?_
    refine lv_aload_n hx hb dX8_thoughtsOf_5 rfl (lv_at hl 0 rfl) ?_
    refine gt_X8 X hw 0 kk_197 rfl (by decide) mw_721 rfl dX8_thoughtsOf_6 ?_
    refine lv_icmp_ge (tgt := 60) hx hb dX8_thoughtsOf_9 (by decide) (fun c33 => ?_) (fun c33 => ?_)
    · replace hf := (if_pos c33).symm.trans hf
      refine lv_iload_n hx hb dX8_thoughtsOf_60 rfl (lv_at hl 2 rfl) ?_
      replace hf := Option.some.inj hf
      subst hf
      exact eI X hw hr hlk dX8_thoughtsOf_61
    · replace hf := (if_neg c33).symm.trans hf
      refine lv_iconst (v := 0) hx hb dX8_thoughtsOf_12 (by decide) ?_
      refine lv_istore (lv' := [(4, .int 0), (0, .ref (b + 197)), (1, .int x1), (2, .int x2), (3, .int x3)]) hx hb dX8_thoughtsOf_13 hl (by decide) rfl (fun ls hl => ?_)
      exact tX8_thoughtsOf_15 X hr hlk ih FU x1 x2 x3 0 M hf H locs ls hw (lv_sub hl [1, 2, 3, 4, 0] rfl)
set_option maxHeartbeats 4000000 in
set_option maxRecDepth 100000 in
theorem ctX8_thoughtsOf (l : Launch) (E : EE) (b : Nat) {MC : Mem} {TC : Int64} {TM : Int64} {x1 : Int32} {M : Mem} {res : Int32}  (hf : gX8_thoughtsOf x1 M = some res) : MetI l E b yX8_thoughtsOf (.code yX8_thoughtsOf cX8_thoughtsOf 5 (some .int)) rmX8_thoughtsOf [.ref (b + 197), .int x1] MC TC M TM res MC TC M TM := by
  refine Met.ofW (cc := cX8_thoughtsOf) (maxL := 5) (ret := (some .int)) (by decide) rfl ?_
  intro p e s m args below meth c s₁ B hml hv
  obtain ⟨rfl, hP, hK⟩ := hv
  have hx := B.exec
  have hb := B.bytes
  have X : CX E p s m _ c cX8_thoughtsOf 5 RX8 := ⟨hx, hb, hml, findClass_of_methodNamed B.named, fun w h => atoms_spec (ws := _ :: wt) B.pre w (List.mem_cons_of_mem _ h), hK⟩
  have hr := B.returns
  have hlk := B.notSynchronized
  have hw : WW E b MC TC M TM s s.heap [] := ⟨hP, va_S.rf⟩
  have hl := lv_entry ([.ref (b + 197), .int x1]) (n := 5) (Nat.le_of_ble_eq_true rfl)
  rw [lg_entry_eq]
  generalize (lg_sl ([.ref (b + 197), .int x1]) ++ List.replicate (5 - (lg_sl ([.ref (b + 197), .int x1])).length) Slot.unset).toArray = ls at hl ⊢
  have hl : lv_has ls 5 [(0, .ref (b + 197)), (1, .int x1)] := hl
  obtain ⟨H, hH⟩ : ∃ H, H = s.heap := ⟨_, rfl⟩
  obtain ⟨locs, hL⟩ : ∃ L : List Loc, L = [] := ⟨_, rfl⟩
  rw [← hH, ← hL] at hw
  suffices hg : W p l e rmX8_thoughtsOf s m _ below meth c H locs 0 0 (MQ below (va_Qi (fun x (_ : Unit) => x = res) (fun _ t => PW E b MC TC M TM t) (AA b)) _ s 0 0 (AA b)) (F0 m 0 ls []) by rw [hH, hL] at hg; exact hg
  clear hH hL
  rw [gX8_thoughtsOf] at hf
  refine lv_iconst (v := 0) hx hb dX8_thoughtsOf_0 (by decide) ?_
  refine lv_istore_n (lv' := [(2, .int 0), (0, .ref (b + 197)), (1, .int x1)]) hx hb dX8_thoughtsOf_1 rfl hl (by decide) rfl (fun ls hl => ?_)
  refine lv_iconst (v := 0) hx hb dX8_thoughtsOf_2 (by decide) ?_
  refine lv_istore_n (lv' := [(3, .int 0), (2, .int 0), (0, .ref (b + 197)), (1, .int x1)]) hx hb dX8_thoughtsOf_3 rfl hl (by decide) rfl (fun ls hl => ?_)
  exact tX8_thoughtsOf_4 X hr hlk FU x1 0 0 M hf H locs ls hw (lv_sub hl [2, 3, 1, 0] rfl)

abbrev rmX8_wig : Room := { frames := 2, cells := 0, slots := 0, locals := 46 }
theorem hd_X8_wig : Hd yX8_wig RX8 1 := by decide +kernel
def gX8_wig_72  (k18 : Int32 → Int32 → Int32 → Mem → Option (Int32)) (x1 : Int32) (x3 : Int32) (y0 : Int32) (M : Mem) : Option (Int32) := (some (x3 + 1)).bind fun z53 => k18 x1 y0 z53 M
def gX8_wig_60  (k18 : Int32 → Int32 → Int32 → Mem → Option (Int32)) (x1 : Int32) (x2 : Int32) (x3 : Int32) (y0 : Int32) (M : Mem) : Option (Int32) := if y0 = 0 then (gX8_wig_72 k18 x1 x3 x2 M) else (gX8_wig_72 k18 x1 x3 x3 M)
def gX8_wig_59  (k18 : Int32 → Int32 → Int32 → Mem → Option (Int32)) (x1 : Int32) (x2 : Int32) (x3 : Int32) (M : Mem) : Option (Int32) := gX8_wig_60 k18 x1 x2 x3 0 M
def gX8_wig_55  (k18 : Int32 → Int32 → Int32 → Mem → Option (Int32)) (x1 : Int32) (x2 : Int32) (x3 : Int32) (M : Mem) : Option (Int32) := gX8_wig_60 k18 x1 x2 x3 1 M
def gX8_wig_18   : Nat → Int32 → Int32 → Int32 → Mem → Option (Int32)
  | 0, _, _, _, _ => none
  | n + 1, x1, x2, x3, M => if (1 <<< ((M 197 0) &&& 31)) ≤ x3 then (some (x2)) else ((gX8_thoughtsOf x3 M).bind fun u49 => if (x1 &&& (u49 ^^^ ((-1)))) = 0 then (if x2 < 0 then (gX8_wig_55 (gX8_wig_18 n) x1 x2 x3 M) else ((gX8_bits x3).bind fun u55 => (gX8_bits x2).bind fun u57 => if u57 ≤ u55 then (gX8_wig_59 (gX8_wig_18 n) x1 x2 x3 M) else (gX8_wig_55 (gX8_wig_18 n) x1 x2 x3 M))) else (gX8_wig_59 (gX8_wig_18 n) x1 x2 x3 M))
def gX8_wig (x1 : Int32) (M : Mem) : Option (Int32) := (gX8_in x1 0 1023).bind fun u45 => if u45 = 0 then (some ((-1))) else (gX8_wig_18 FU x1 ((-9)) 0 M)
set_option maxHeartbeats 4000000 in
set_option maxRecDepth 100000 in
theorem tX8_wig_72 {p : Program} {l : Launch} {e : Env} {s : State} {m : MethodId} {args : Array Value} {below : List Frame} {meth : Method} {c : Code} {E : EE} {b : Nat} {MC : Mem} {TC : Int64} {TM : Int64} {res : Int32} (X : CX E p s m args c cX8_wig 5 RX8) (hr : meth.sig.returnType = (some .int)) (hlk : meth.locks = false)   {k18 : Int32 → Int32 → Int32 → Mem → Option (Int32)} (hk18 : ∀ (x1 : Int32) (x2 : Int32) (x3 : Int32) (M : Mem), k18 x1 x2 x3 M = some res → ∀ (H : Heap) (locs : List Loc) (ls : Array Slot), WW E b MC TC M TM s H locs → lv_has ls 5 [(0, .ref (b + 197)), (1, .int x1), (2, .int x2), (3, .int x3)] → W p l e rmX8_wig s m args below meth c H locs 0 0 (MQ below (va_Qi (fun x (_ : Unit) => x = res) (fun _ t => PW E b MC TC M TM t) (AA b)) args s 0 0 (AA b)) (F0 m 18 ls [])) : ∀ (x1 : Int32) (x3 : Int32) (y0 : Int32) (M : Mem), gX8_wig_72 k18 x1 x3 y0 M = some res → ∀ (H : Heap) (locs : List Loc) (ls : Array Slot), WW E b MC TC M TM s H locs → lv_has ls 5 [(0, .ref (b + 197)), (1, .int x1), (3, .int x3)] → W p l e rmX8_wig s m args below meth c H locs 0 0 (MQ below (va_Qi (fun x (_ : Unit) => x = res) (fun _ t => PW E b MC TC M TM t) (AA b)) args s 0 0 (AA b)) (F0 m 72 ls [.int y0]) := by
  have hx := X.1
  have hb := X.2.1
  intro x1 x3 y0 M hf H locs ls hw hl
  rw [gX8_wig_72] at hf
  refine lv_istore_n (lv' := [(2, .int y0), (0, .ref (b + 197)), (1, .int x1), (3, .int x3)]) hx hb dX8_wig_72 rfl hl (by decide) rfl (fun ls hl => ?_)
  obtain ⟨z53, ez53⟩ : ∃ y : Int32, y = x3 + 1 := ⟨_, rfl⟩
  replace hf := nmb hf ez53
  refine lv_iinc (v := z53) (lv' := [(3, .int z53), (2, .int y0), (0, .ref (b + 197)), (1, .int x1)]) hx hb dX8_wig_73 hl (k := 3) rfl (by rw [ez53]; rfl) (by decide) rfl (fun ls hl => ?_)
  refine lv_goto (tgt := 18) hx hb dX8_wig_76 (by decide) ?_
  exact hk18 x1 y0 z53 M hf H locs ls hw (lv_sub hl [2, 3, 1, 0] rfl)
set_option maxHeartbeats 4000000 in
set_option maxRecDepth 100000 in
theorem tX8_wig_60 {p : Program} {l : Launch} {e : Env} {s : State} {m : MethodId} {args : Array Value} {below : List Frame} {meth : Method} {c : Code} {E : EE} {b : Nat} {MC : Mem} {TC : Int64} {TM : Int64} {res : Int32} (X : CX E p s m args c cX8_wig 5 RX8) (hr : meth.sig.returnType = (some .int)) (hlk : meth.locks = false)   {k18 : Int32 → Int32 → Int32 → Mem → Option (Int32)} (hk18 : ∀ (x1 : Int32) (x2 : Int32) (x3 : Int32) (M : Mem), k18 x1 x2 x3 M = some res → ∀ (H : Heap) (locs : List Loc) (ls : Array Slot), WW E b MC TC M TM s H locs → lv_has ls 5 [(0, .ref (b + 197)), (1, .int x1), (2, .int x2), (3, .int x3)] → W p l e rmX8_wig s m args below meth c H locs 0 0 (MQ below (va_Qi (fun x (_ : Unit) => x = res) (fun _ t => PW E b MC TC M TM t) (AA b)) args s 0 0 (AA b)) (F0 m 18 ls [])) : ∀ (x1 : Int32) (x2 : Int32) (x3 : Int32) (y0 : Int32) (M : Mem), gX8_wig_60 k18 x1 x2 x3 y0 M = some res → ∀ (H : Heap) (locs : List Loc) (ls : Array Slot), WW E b MC TC M TM s H locs → lv_has ls 5 [(0, .ref (b + 197)), (1, .int x1), (2, .int x2), (3, .int x3)] → W p l e rmX8_wig s m args below meth c H locs 0 0 (MQ below (va_Qi (fun x (_ : Unit) => x = res) (fun _ t => PW E b MC TC M TM t) (AA b)) args s 0 0 (AA b)) (F0 m 60 ls [.int y0]) := by
  have hx := X.1
  have hb := X.2.1
  intro x1 x2 x3 y0 M hf H locs ls hw hl
  rw [gX8_wig_60] at hf
  refine lv_istore (lv' := [(4, .int y0), (0, .ref (b + 197)), (1, .int x1), (2, .int x2), (3, .int x3)]) hx hb dX8_wig_60 hl (by decide) rfl (fun ls hl => ?_)
  refine lv_iload hx hb dX8_wig_62 (lv_at hl 0 rfl) ?_
  refine lv_if_eq (tgt := 71) hx hb dX8_wig_64 (by decide) (fun c52 => ?_) (fun c52 => ?_)
  · replace hf := (if_pos c52).symm.trans hf
    refine lv_iload_n hx hb dX8_wig_71 rfl (lv_at hl 3 rfl) ?_
    exact tX8_wig_72 X hr hlk hk18 x1 x3 x2 M hf H locs ls hw (lv_sub hl [1, 2, 4] rfl)
  · replace hf := (if_neg c52).symm.trans hf
    refine lv_iload_n hx hb dX8_wig_67 rfl (lv_at hl 4 rfl) ?_
    refine lv_goto (tgt := 72) hx hb dX8_wig_68 (by decide) ?_
    exact tX8_wig_72 X hr hlk hk18 x1 x3 x3 M hf H locs ls hw (lv_sub hl [1, 2, 4] rfl)
set_option maxHeartbeats 4000000 in
set_option maxRecDepth 100000 in
theorem tX8_wig_59 {p : Program} {l : Launch} {e : Env} {s : State} {m : MethodId} {args : Array Value} {below : List Frame} {meth : Method} {c : Code} {E : EE} {b : Nat} {MC : Mem} {TC : Int64} {TM : Int64} {res : Int32} (X : CX E p s m args c cX8_wig 5 RX8) (hr : meth.sig.returnType = (some .int)) (hlk : meth.locks = false)   {k18 : Int32 → Int32 → Int32 → Mem → Option (Int32)} (hk18 : ∀ (x1 : Int32) (x2 : Int32) (x3 : Int32) (M : Mem), k18 x1 x2 x3 M = some res → ∀ (H : Heap) (locs : List Loc) (ls : Array Slot), WW E b MC TC M TM s H locs → lv_has ls 5 [(0, .ref (b + 197)), (1, .int x1), (2, .int x2), (3, .int x3)] → W p l e rmX8_wig s m args below meth c H locs 0 0 (MQ below (va_Qi (fun x (_ : Unit) => x = res) (fun _ t => PW E b MC TC M TM t) (AA b)) args s 0 0 (AA b)) (F0 m 18 ls [])) : ∀ (x1 : Int32) (x2 : Int32) (x3 : Int32) (M : Mem), gX8_wig_59 k18 x1 x2 x3 M = some res → ∀ (H : Heap) (locs : List Loc) (ls : Array Slot), WW E b MC TC M TM s H locs → lv_has ls 5 [(0, .ref (b + 197)), (1, .int x1), (2, .int x2), (3, .int x3)] → W p l e rmX8_wig s m args below meth c H locs 0 0 (MQ below (va_Qi (fun x (_ : Unit) => x = res) (fun _ t => PW E b MC TC M TM t) (AA b)) args s 0 0 (AA b)) (F0 m 59 ls []) := by
  have hx := X.1
  have hb := X.2.1
  intro x1 x2 x3 M hf H locs ls hw hl
  rw [gX8_wig_59] at hf
  refine lv_iconst (v := 0) hx hb dX8_wig_59 (by decide) ?_
  exact tX8_wig_60 X hr hlk hk18 x1 x2 x3 0 M hf H locs ls hw (lv_sub hl [0, 1, 2, 3] rfl)
set_option maxHeartbeats 4000000 in
set_option maxRecDepth 100000 in
theorem tX8_wig_55 {p : Program} {l : Launch} {e : Env} {s : State} {m : MethodId} {args : Array Value} {below : List Frame} {meth : Method} {c : Code} {E : EE} {b : Nat} {MC : Mem} {TC : Int64} {TM : Int64} {res : Int32} (X : CX E p s m args c cX8_wig 5 RX8) (hr : meth.sig.returnType = (some .int)) (hlk : meth.locks = false)   {k18 : Int32 → Int32 → Int32 → Mem → Option (Int32)} (hk18 : ∀ (x1 : Int32) (x2 : Int32) (x3 : Int32) (M : Mem), k18 x1 x2 x3 M = some res → ∀ (H : Heap) (locs : List Loc) (ls : Array Slot), WW E b MC TC M TM s H locs → lv_has ls 5 [(0, .ref (b + 197)), (1, .int x1), (2, .int x2), (3, .int x3)] → W p l e rmX8_wig s m args below meth c H locs 0 0 (MQ below (va_Qi (fun x (_ : Unit) => x = res) (fun _ t => PW E b MC TC M TM t) (AA b)) args s 0 0 (AA b)) (F0 m 18 ls [])) : ∀ (x1 : Int32) (x2 : Int32) (x3 : Int32) (M : Mem), gX8_wig_55 k18 x1 x2 x3 M = some res → ∀ (H : Heap) (locs : List Loc) (ls : Array Slot), WW E b MC TC M TM s H locs → lv_has ls 5 [(0, .ref (b + 197)), (1, .int x1), (2, .int x2), (3, .int x3)] → W p l e rmX8_wig s m args below meth c H locs 0 0 (MQ below (va_Qi (fun x (_ : Unit) => x = res) (fun _ t => PW E b MC TC M TM t) (AA b)) args s 0 0 (AA b)) (F0 m 55 ls []) := by
  have hx := X.1
  have hb := X.2.1
  intro x1 x2 x3 M hf H locs ls hw hl
  rw [gX8_wig_55] at hf
  refine lv_iconst (v := 1) hx hb dX8_wig_55 (by decide) ?_
  refine lv_goto (tgt := 60) hx hb dX8_wig_56 (by decide) ?_
  exact tX8_wig_60 X hr hlk hk18 x1 x2 x3 1 M hf H locs ls hw (lv_sub hl [0, 1, 2, 3] rfl)
set_option maxHeartbeats 4000000 in
set_option maxRecDepth 100000 in
theorem tX8_wig_18 {p : Program} {l : Launch} {e : Env} {s : State} {m : MethodId} {args : Array Value} {below : List Frame} {meth : Method} {c : Code} {E : EE} {b : Nat} {MC : Mem} {TC : Int64} {TM : Int64} {res : Int32} (X : CX E p s m args c cX8_wig 5 RX8) (hr : meth.sig.returnType = (some .int)) (hlk : meth.locks = false)    : ∀ (n : Nat) (x1 : Int32) (x2 : Int32) (x3 : Int32) (M : Mem), gX8_wig_18 n x1 x2 x3 M = some res → ∀ (H : Heap) (locs : List Loc) (ls : Array Slot), WW E b MC TC M TM s H locs → lv_has ls 5 [(0, .ref (b + 197)), (1, .int x1), (2, .int x2), (3, .int x3)] → W p l e rmX8_wig s m args below meth c H locs 0 0 (MQ below (va_Qi (fun x (_ : Unit) => x = res) (fun _ t => PW E b MC TC M TM t) (AA b)) args s 0 0 (AA b)) (F0 m 18 ls []) := by
  have hx := X.1
  have hb := X.2.1
  intro n
  induction n with
  | zero =>
    intro x1 x2 x3 M hf
    cases (show (none : Option (Int32)) = some res from hf)
  | succ n ih =>
    intro x1 x2 x3 M hf H locs ls hw hl
    rw [gX8_wig_18] at hf
    refine lv_iload_n hx hb dX8_wig_18 rfl (lv_at hl 3 rfl) ?_
    refine lv_iconst (v := 1) hx hb dX8_wig_19 (by decide) ?_
    refine lv_aload_n hx hb dX8_wig_20 rfl (lv_at hl 0 rfl) ?_
    refine gt_X8 X hw 0 kk_197 rfl (by decide) mw_721 rfl dX8_wig_21 ?_
    refine lv_ishl hx hb dX8_wig_24 ?_
    refine lv_icmp_ge (tgt := 79) hx hb dX8_wig_25 (by decide) (fun c48 => ?_) (fun c48 => ?_)
    · replace hf := (if_pos c48).symm.trans hf
      refine lv_iload_n hx hb dX8_wig_79 rfl (lv_at hl 2 rfl) ?_
      replace hf := Option.some.inj hf
      subst hf
      exact eI X hw hr hlk dX8_wig_80
    · replace hf := (if_neg c48).symm.trans hf
      refine lv_iload_n hx hb dX8_wig_28 rfl (lv_at hl 1 rfl) ?_
      refine lv_aload_n hx hb dX8_wig_29 rfl (lv_at hl 0 rfl) ?_
      refine lv_iload_n hx hb dX8_wig_30 rfl (lv_at hl 3 rfl) ?_
      obtain ⟨u49, q50, hf⟩ := ob hf
      refine cVi (As := [.int x3]) X hw (ctX8_thoughtsOf l E b  q50) ⟨mw_980, mw_982, mw_48, mw_61, mw_983⟩ hd_X8_thoughtsOf ⟨Nat.le_of_ble_eq_true rfl, Nat.le_of_ble_eq_true rfl, rfl, rfl⟩ (kdk kk_197 (by decide)) (ce_X8 E _ _ _ _ kk_197) (show vwCl[8]? = some (RX8, TX8, 31) from rfl) rfl hl.1 rfl (Nat.le_of_ble_eq_true rfl) dX8_wig_31 (fun H locs hw => ?_)
      refine lv_iconst (v := (-1)) hx hb dX8_wig_34 (by decide) ?_
      refine lv_ixor hx hb dX8_wig_35 ?_
      refine lv_iand hx hb dX8_wig_36 ?_
      refine lv_if_ne (tgt := 59) hx hb dX8_wig_37 (by decide) (fun c51 => ?_) (fun c51 => ?_)
      · replace hf := (if_neg c51).symm.trans hf
        exact tX8_wig_59 X hr hlk ih x1 x2 x3 M hf H locs ls hw (lv_sub hl [0, 1, 2, 3] rfl)
      · replace hf := (if_pos c51).symm.trans hf
        refine lv_iload_n hx hb dX8_wig_40 rfl (lv_at hl 2 rfl) ?_
        refine lv_if_lt (tgt := 55) hx hb dX8_wig_41 (by decide) (fun c54 => ?_) (fun c54 => ?_)
        · replace hf := (if_pos c54).symm.trans hf
          exact tX8_wig_55 X hr hlk ih x1 x2 x3 M hf H locs ls hw (lv_sub hl [0, 1, 2, 3] rfl)
        · replace hf := (if_neg c54).symm.trans hf
          refine lv_iload_n hx hb dX8_wig_44 rfl (lv_at hl 3 rfl) ?_
          obtain ⟨u55, q56, hf⟩ := ob hf
          refine cSi (As := [.int x3]) X hw (ctX8_bits l E b  q56) ⟨mw_973, mw_974, mw_61, mw_975⟩ hd_X8_bits ⟨Nat.le_of_ble_eq_true rfl, Nat.le_of_ble_eq_true rfl, rfl, rfl⟩ rfl hl.1 rfl (Nat.le_of_ble_eq_true rfl) dX8_wig_45 (fun H locs hw => ?_)
          refine lv_iload_n hx hb dX8_wig_48 rfl (lv_at hl 2 rfl) ?_
          obtain ⟨u57, q58, hf⟩ := ob hf
          refine cSi (As := [.int x2]) X hw (ctX8_bits l E b  q58) ⟨mw_973, mw_974, mw_61, mw_975⟩ hd_X8_bits ⟨Nat.le_of_ble_eq_true rfl, Nat.le_of_ble_eq_true rfl, rfl, rfl⟩ rfl hl.1 rfl (Nat.le_of_ble_eq_true rfl) dX8_wig_49 (fun H locs hw => ?_)
          refine lv_icmp_ge (tgt := 59) hx hb dX8_wig_52 (by decide) (fun c59 => ?_) (fun c59 => ?_)
          · replace hf := (if_pos c59).symm.trans hf
            exact tX8_wig_59 X hr hlk ih x1 x2 x3 M hf H locs ls hw (lv_sub hl [0, 1, 2, 3] rfl)
          · replace hf := (if_neg c59).symm.trans hf
            exact tX8_wig_55 X hr hlk ih x1 x2 x3 M hf H locs ls hw (lv_sub hl [0, 1, 2, 3] rfl)
set_option maxHeartbeats 4000000 in
set_option maxRecDepth 100000 in
theorem ctX8_wig (l : Launch) (E : EE) (b : Nat) {MC : Mem} {TC : Int64} {TM : Int64} {x1 : Int32} {M : Mem} {res : Int32}  (hf : gX8_wig x1 M = some res) : MetI l E b yX8_wig (.code yX8_wig cX8_wig 5 (some .int)) rmX8_wig [.ref (b + 197), .int x1] MC TC M TM res MC TC M TM := by
  refine Met.ofW (cc := cX8_wig) (maxL := 5) (ret := (some .int)) (by decide) rfl ?_
  intro p e s m args below meth c s₁ B hml hv
  obtain ⟨rfl, hP, hK⟩ := hv
  have hx := B.exec
  have hb := B.bytes
  have X : CX E p s m _ c cX8_wig 5 RX8 := ⟨hx, hb, hml, findClass_of_methodNamed B.named, fun w h => atoms_spec (ws := _ :: wt) B.pre w (List.mem_cons_of_mem _ h), hK⟩
  have hr := B.returns
  have hlk := B.notSynchronized
  have hw : WW E b MC TC M TM s s.heap [] := ⟨hP, va_S.rf⟩
  have hl := lv_entry ([.ref (b + 197), .int x1]) (n := 5) (Nat.le_of_ble_eq_true rfl)
  rw [lg_entry_eq]
  generalize (lg_sl ([.ref (b + 197), .int x1]) ++ List.replicate (5 - (lg_sl ([.ref (b + 197), .int x1])).length) Slot.unset).toArray = ls at hl ⊢
  have hl : lv_has ls 5 [(0, .ref (b + 197)), (1, .int x1)] := hl
  obtain ⟨H, hH⟩ : ∃ H, H = s.heap := ⟨_, rfl⟩
  obtain ⟨locs, hL⟩ : ∃ L : List Loc, L = [] := ⟨_, rfl⟩
  rw [← hH, ← hL] at hw
  suffices hg : W p l e rmX8_wig s m _ below meth c H locs 0 0 (MQ below (va_Qi (fun x (_ : Unit) => x = res) (fun _ t => PW E b MC TC M TM t) (AA b)) _ s 0 0 (AA b)) (F0 m 0 ls []) by rw [hH, hL] at hg; exact hg
  clear hH hL
  rw [gX8_wig] at hf
  refine lv_iload_n hx hb dX8_wig_0 rfl (lv_at hl 1 rfl) ?_
  refine lv_iconst (v := 0) hx hb dX8_wig_1 (by decide) ?_
  refine lv_sipush (v := 1023) hx hb dX8_wig_2 (by decide) ?_
  obtain ⟨u45, q46, hf⟩ := ob hf
  refine cSi (As := [.int x1, .int 0, .int 1023]) X hw (ctX8_in l E b  q46) ⟨mw_819, mw_820, mw_61, mw_821⟩ hd_X8_in ⟨Nat.le_of_ble_eq_true rfl, Nat.le_of_ble_eq_true rfl, rfl, rfl⟩ rfl hl.1 rfl (Nat.le_of_ble_eq_true rfl) dX8_wig_5 (fun H locs hw => ?_)
  refine lv_if_ne (tgt := 13) hx hb dX8_wig_8 (by decide) (fun c47 => ?_) (fun c47 => ?_)
  · replace hf := (if_neg c47).symm.trans hf
    refine lv_bipush (v := (-9)) hx hb dX8_wig_13 (by decide) ?_
    refine lv_istore_n (lv' := [(2, .int ((-9))), (0, .ref (b + 197)), (1, .int x1)]) hx hb dX8_wig_15 rfl hl (by decide) rfl (fun ls hl => ?_)
    refine lv_iconst (v := 0) hx hb dX8_wig_16 (by decide) ?_
    refine lv_istore_n (lv' := [(3, .int 0), (2, .int ((-9))), (0, .ref (b + 197)), (1, .int x1)]) hx hb dX8_wig_17 rfl hl (by decide) rfl (fun ls hl => ?_)
    exact tX8_wig_18 X hr hlk FU x1 ((-9)) 0 M hf H locs ls hw (lv_sub hl [2, 3, 1, 0] rfl)
  · replace hf := (if_pos c47).symm.trans hf
    refine lv_iconst (v := (-1)) hx hb dX8_wig_11 (by decide) ?_
    replace hf := Option.some.inj hf
    subst hf
    exact eI X hw hr hlk dX8_wig_12

abbrev rmX8_lowest : Room := { frames := 0, cells := 0, slots := 0, locals := 0 }
theorem hd_X8_lowest : Hd yX8_lowest RX8 3 := by decide +kernel
def gX8_lowest_35   (x3 : Int32) (y0 : Int32) : Option (Int32) := (nz x3).bind fun _ => some (y0 / x3)
def gX8_lowest_5   : Nat → Int32 → Int32 → Int32 → Int32 → Int32 → Option (Int32)
  | 0, _, _, _, _, _ => none
  | n + 1, x0, x1, x2, x3, x4 => if x4 ≤ 0 then (if x2 = 0 then (gX8_lowest_35 x3 x0) else (gX8_lowest_35 x3 x1)) else ((nz x4).bind fun _ => (some (x3 - x3 / x4 * x4)).bind fun z64 => (gX8_lowest_5 n) x0 x1 x2 x4 z64)
def gX8_lowest (x0 : Int32) (x1 : Int32) (x2 : Int32) : Option (Int32) := gX8_lowest_5 FU x0 x1 x2 x0 x1
set_option maxHeartbeats 4000000 in
set_option maxRecDepth 100000 in
theorem tX8_lowest_35 {p : Program} {l : Launch} {e : Env} {s : State} {m : MethodId} {args : Array Value} {below : List Frame} {meth : Method} {c : Code} {E : EE} {b : Nat} {MC : Mem} {TC : Int64} {MM : Mem} {TM : Int64} {res : Int32} (X : CX E p s m args c cX8_lowest 6 RX8) (hr : meth.sig.returnType = (some .int)) (hlk : meth.locks = false)    : ∀ (x3 : Int32) (y0 : Int32), gX8_lowest_35 x3 y0 = some res → ∀ (H : Heap) (locs : List Loc) (ls : Array Slot), WW E b MC TC MM TM s H locs → lv_has ls 6 [(3, .int x3)] → W p l e rmX8_lowest s m args below meth c H locs 0 0 (MQ below (va_Qi (fun x (_ : Unit) => x = res) (fun _ t => PW E b MC TC MM TM t) (AA b)) args s 0 0 (AA b)) (F0 m 35 ls [.int y0]) := by
  have hx := X.1
  have hb := X.2.1
  intro x3 y0 hf H locs ls hw hl
  rw [gX8_lowest_35] at hf
  refine lv_iload_n hx hb dX8_lowest_35 rfl (lv_at hl 0 rfl) ?_
  obtain ⟨_, q62, hf⟩ := ob hf
  refine lv_idiv hx hb dX8_lowest_36 (nz_ne q62) ?_
  replace hf := Option.some.inj hf
  subst hf
  exact eI X hw hr hlk dX8_lowest_37
set_option maxHeartbeats 4000000 in
set_option maxRecDepth 100000 in
theorem tX8_lowest_5 {p : Program} {l : Launch} {e : Env} {s : State} {m : MethodId} {args : Array Value} {below : List Frame} {meth : Method} {c : Code} {E : EE} {b : Nat} {MC : Mem} {TC : Int64} {MM : Mem} {TM : Int64} {res : Int32} (X : CX E p s m args c cX8_lowest 6 RX8) (hr : meth.sig.returnType = (some .int)) (hlk : meth.locks = false)    : ∀ (n : Nat) (x0 : Int32) (x1 : Int32) (x2 : Int32) (x3 : Int32) (x4 : Int32), gX8_lowest_5 n x0 x1 x2 x3 x4 = some res → ∀ (H : Heap) (locs : List Loc) (ls : Array Slot), WW E b MC TC MM TM s H locs → lv_has ls 6 [(0, .int x0), (1, .int x1), (2, .int x2), (3, .int x3), (4, .int x4)] → W p l e rmX8_lowest s m args below meth c H locs 0 0 (MQ below (va_Qi (fun x (_ : Unit) => x = res) (fun _ t => PW E b MC TC MM TM t) (AA b)) args s 0 0 (AA b)) (F0 m 5 ls []) := by
  have hx := X.1
  have hb := X.2.1
  intro n
  induction n with
  | zero =>
    intro x0 x1 x2 x3 x4 hf
    cases (show (none : Option (Int32)) = some res from hf)
  | succ n ih =>
    intro x0 x1 x2 x3 x4 hf H locs ls hw hl
    rw [gX8_lowest_5] at hf
    refine lv_iload hx hb dX8_lowest_5 (lv_at hl 4 rfl) ?_
    refine lv_if_le (tgt := 26) hx hb dX8_lowest_7 (by decide) (fun c60 => ?_) (fun c60 => ?_)
    · replace hf := (if_pos c60).symm.trans hf
      refine lv_iload_n hx hb dX8_lowest_26 rfl (lv_at hl 2 rfl) ?_
      refine lv_if_ne (tgt := 34) hx hb dX8_lowest_27 (by decide) (fun c61 => ?_) (fun c61 => ?_)
      · replace hf := (if_neg c61).symm.trans hf
        refine lv_iload_n hx hb dX8_lowest_34 rfl (lv_at hl 1 rfl) ?_
        exact tX8_lowest_35 X hr hlk x3 x1 hf H locs ls hw (lv_sub hl [3] rfl)
      · replace hf := (if_pos c61).symm.trans hf
        refine lv_iload_n hx hb dX8_lowest_30 rfl (lv_at hl 0 rfl) ?_
        refine lv_goto (tgt := 35) hx hb dX8_lowest_31 (by decide) ?_
        exact tX8_lowest_35 X hr hlk x3 x0 hf H locs ls hw (lv_sub hl [3] rfl)
    · replace hf := (if_neg c60).symm.trans hf
      refine lv_iload_n hx hb dX8_lowest_10 rfl (lv_at hl 3 rfl) ?_
      refine lv_iload hx hb dX8_lowest_11 (lv_at hl 4 rfl) ?_
      obtain ⟨_, q63, hf⟩ := ob hf
      refine lv_irem hx hb dX8_lowest_13 (nz_ne q63) ?_
      refine lv_topi (fun z64 ez64 => ?_)
      replace hf := nmb hf ez64
      refine lv_istore (lv' := [(5, .int z64), (0, .int x0), (1, .int x1), (2, .int x2), (3, .int x3), (4, .int x4)]) hx hb dX8_lowest_14 hl (by decide) rfl (fun ls hl => ?_)
      refine lv_iload hx hb dX8_lowest_16 (lv_at hl 5 rfl) ?_
      refine lv_istore_n (lv' := [(3, .int x4), (5, .int z64), (0, .int x0), (1, .int x1), (2, .int x2), (4, .int x4)]) hx hb dX8_lowest_18 rfl hl (by decide) rfl (fun ls hl => ?_)
      refine lv_iload hx hb dX8_lowest_19 (lv_at hl 1 rfl) ?_
      refine lv_istore (lv' := [(4, .int z64), (3, .int x4), (5, .int z64), (0, .int x0), (1, .int x1), (2, .int x2)]) hx hb dX8_lowest_21 hl (by decide) rfl (fun ls hl => ?_)
      refine lv_goto (tgt := 5) hx hb dX8_lowest_23 (by decide) ?_
      exact ih x0 x1 x2 x4 z64 hf H locs ls hw (lv_sub hl [3, 4, 5, 1, 0] rfl)
set_option maxHeartbeats 4000000 in
set_option maxRecDepth 100000 in
theorem ctX8_lowest (l : Launch) (E : EE) (b : Nat) {MC : Mem} {TC : Int64} {MM : Mem} {TM : Int64} {x0 : Int32} {x1 : Int32} {x2 : Int32} {res : Int32}  (hf : gX8_lowest x0 x1 x2 = some res) : MetI l E b yX8_lowest (.code yX8_lowest cX8_lowest 6 (some .int)) rmX8_lowest [.int x0, .int x1, .int x2] MC TC MM TM res MC TC MM TM := by
  refine Met.ofW (cc := cX8_lowest) (maxL := 6) (ret := (some .int)) (by decide) rfl ?_
  intro p e s m args below meth c s₁ B hml hv
  obtain ⟨rfl, hP, hK⟩ := hv
  have hx := B.exec
  have hb := B.bytes
  have X : CX E p s m _ c cX8_lowest 6 RX8 := ⟨hx, hb, hml, findClass_of_methodNamed B.named, fun w h => atoms_spec (ws := _ :: wt) B.pre w (List.mem_cons_of_mem _ h), hK⟩
  have hr := B.returns
  have hlk := B.notSynchronized
  have hw : WW E b MC TC MM TM s s.heap [] := ⟨hP, va_S.rf⟩
  have hl := lv_entry ([.int x0, .int x1, .int x2]) (n := 6) (Nat.le_of_ble_eq_true rfl)
  rw [lg_entry_eq]
  generalize (lg_sl ([.int x0, .int x1, .int x2]) ++ List.replicate (6 - (lg_sl ([.int x0, .int x1, .int x2])).length) Slot.unset).toArray = ls at hl ⊢
  have hl : lv_has ls 6 [(0, .int x0), (1, .int x1), (2, .int x2)] := hl
  obtain ⟨H, hH⟩ : ∃ H, H = s.heap := ⟨_, rfl⟩
  obtain ⟨locs, hL⟩ : ∃ L : List Loc, L = [] := ⟨_, rfl⟩
  rw [← hH, ← hL] at hw
  suffices hg : W p l e rmX8_lowest s m _ below meth c H locs 0 0 (MQ below (va_Qi (fun x (_ : Unit) => x = res) (fun _ t => PW E b MC TC MM TM t) (AA b)) _ s 0 0 (AA b)) (F0 m 0 ls []) by rw [hH, hL] at hg; exact hg
  clear hH hL
  rw [gX8_lowest] at hf
  refine lv_iload_n hx hb dX8_lowest_0 rfl (lv_at hl 0 rfl) ?_
  refine lv_istore_n (lv' := [(3, .int x0), (0, .int x0), (1, .int x1), (2, .int x2)]) hx hb dX8_lowest_1 rfl hl (by decide) rfl (fun ls hl => ?_)
  refine lv_iload_n hx hb dX8_lowest_2 rfl (lv_at hl 2 rfl) ?_
  refine lv_istore (lv' := [(4, .int x1), (3, .int x0), (0, .int x0), (1, .int x1), (2, .int x2)]) hx hb dX8_lowest_3 hl (by decide) rfl (fun ls hl => ?_)
  exact tX8_lowest_5 X hr hlk FU x0 x1 x2 x0 x1 hf H locs ls hw (lv_sub hl [2, 3, 4, 1, 0] rfl)

abbrev rmX8_odds : Room := { frames := 1, cells := 0, slots := 0, locals := 25 }
theorem hd_X8_odds : Hd yX8_odds RX8 4 := by decide +kernel
def gX8_odds_139  (k73 : Int32 → Int32 → Int32 → Int32 → Int32 → Int32 → Int32 → Option (Int32)) (x1 : Int32) (x2 : Int32) (x3 : Int32) (x4 : Int32) (x6 : Int32) (x7 : Int32) (y0 : Int32) (y1 : Int32) : Option (Int32) := (some (y1 + y0)).bind fun z85 => (some (x7 + 1)).bind fun z86 => k73 x1 x2 x3 x4 z85 x6 z86
def gX8_odds_113  (k73 : Int32 → Int32 → Int32 → Int32 → Int32 → Int32 → Int32 → Option (Int32)) (k87 : Int32 → Int32 → Int32 → Int32 → Int32 → Int32 → Int32 → Int32 → Int32 → Option (Int32)) (x1 : Int32) (x2 : Int32) (x3 : Int32) (x4 : Int32) (x5 : Int32) (x6 : Int32) (x7 : Int32) (x9 : Int32) (y0 : Int32) (y1 : Int32) : Option (Int32) := (some (y1 * y0)).bind fun z90 => (some (x9 + 1)).bind fun z91 => k87 x1 x2 x3 x4 x5 x6 x7 z90 z91
def gX8_odds_87  (k73 : Int32 → Int32 → Int32 → Int32 → Int32 → Int32 → Int32 → Option (Int32)) : Nat → Int32 → Int32 → Int32 → Int32 → Int32 → Int32 → Int32 → Int32 → Int32 → Option (Int32)
  | 0, _, _, _, _, _, _, _, _, _ => none
  | n + 1, x1, x2, x3, x4, x5, x6, x7, x8, x9 => if x3 ≤ x9 then ((gX8_bits x7).bind fun u82 => if u82 = x2 then (gX8_odds_139 k73 x1 x2 x3 x4 x6 x7 x8 x5) else (gX8_odds_139 k73 x1 x2 x3 x4 x6 x7 0 x5)) else ((gX8_has x7 x9).bind fun u87 => if u87 = 0 then (gX8_odds_113 k73 (gX8_odds_87 k73 n) x1 x2 x3 x4 x5 x6 x7 x9 (10 - x1) x8) else (gX8_odds_113 k73 (gX8_odds_87 k73 n) x1 x2 x3 x4 x5 x6 x7 x9 x1 x8))
def gX8_odds_73   : Nat → Int32 → Int32 → Int32 → Int32 → Int32 → Int32 → Int32 → Option (Int32)
  | 0, _, _, _, _, _, _, _ => none
  | n + 1, x1, x2, x3, x4, x5, x6, x7 => if (1 <<< (x3 &&& 31)) ≤ x7 then ((gX8_lowest x5 x6 x4).bind fun u79 => some (u79)) else (gX8_odds_87 (gX8_odds_73 n) FU x1 x2 x3 x4 x5 x6 x7 1 0)
def gX8_odds_51   : Nat → Int32 → Int32 → Int32 → Int32 → Int32 → Int32 → Int32 → Option (Int32)
  | 0, _, _, _, _, _, _, _ => none
  | n + 1, x1, x2, x3, x4, x5, x6, x7 => if x3 ≤ x7 then (gX8_odds_73 FU x1 x2 x3 x4 x5 x6 0) else ((some (x6 * 10)).bind fun z92 => (some (x7 + 1)).bind fun z93 => (gX8_odds_51 n) x1 x2 x3 x4 x5 z92 z93)
def gX8_odds (x1 : Int32) (x2 : Int32) (x3 : Int32) (x4 : Int32) : Option (Int32) := (gX8_in x1 0 10).bind fun u65 => if u65 = 0 then (some ((-1))) else ((gX8_in x2 0 7).bind fun u68 => if u68 = 0 then (some ((-1))) else ((gX8_in x3 0 7).bind fun u71 => if u71 = 0 then (some ((-1))) else ((gX8_in x4 0 1).bind fun u74 => if u74 = 0 then (some ((-1))) else (gX8_odds_51 FU x1 x2 x3 x4 0 1 0))))
set_option maxHeartbeats 4000000 in
set_option maxRecDepth 100000 in
theorem tX8_odds_139 {p : Program} {l : Launch} {e : Env} {s : State} {m : MethodId} {args : Array Value} {below : List Frame} {meth : Method} {c : Code} {E : EE} {b : Nat} {MC : Mem} {TC : Int64} {MM : Mem} {TM : Int64} {res : Int32} (X : CX E p s m args c cX8_odds 10 RX8) (hr : meth.sig.returnType = (some .int)) (hlk : meth.locks = false)   {k73 : Int32 → Int32 → Int32 → Int32 → Int32 → Int32 → Int32 → Option (Int32)} (hk73 : ∀ (x1 : Int32) (x2 : Int32) (x3 : Int32) (x4 : Int32) (x5 : Int32) (x6 : Int32) (x7 : Int32), k73 x1 x2 x3 x4 x5 x6 x7 = some res → ∀ (H : Heap) (locs : List Loc) (ls : Array Slot), WW E b MC TC MM TM s H locs → lv_has ls 10 [(1, .int x1), (2, .int x2), (3, .int x3), (4, .int x4), (5, .int x5), (6, .int x6), (7, .int x7)] → W p l e rmX8_odds s m args below meth c H locs 0 0 (MQ below (va_Qi (fun x (_ : Unit) => x = res) (fun _ t => PW E b MC TC MM TM t) (AA b)) args s 0 0 (AA b)) (F0 m 73 ls [])) : ∀ (x1 : Int32) (x2 : Int32) (x3 : Int32) (x4 : Int32) (x6 : Int32) (x7 : Int32) (y0 : Int32) (y1 : Int32), gX8_odds_139 k73 x1 x2 x3 x4 x6 x7 y0 y1 = some res → ∀ (H : Heap) (locs : List Loc) (ls : Array Slot), WW E b MC TC MM TM s H locs → lv_has ls 10 [(1, .int x1), (2, .int x2), (3, .int x3), (4, .int x4), (6, .int x6), (7, .int x7)] → W p l e rmX8_odds s m args below meth c H locs 0 0 (MQ below (va_Qi (fun x (_ : Unit) => x = res) (fun _ t => PW E b MC TC MM TM t) (AA b)) args s 0 0 (AA b)) (F0 m 139 ls [.int y0, .int y1]) := by
  have hx := X.1
  have hb := X.2.1
  intro x1 x2 x3 x4 x6 x7 y0 y1 hf H locs ls hw hl
  rw [gX8_odds_139] at hf
  refine lv_iadd hx hb dX8_odds_139 ?_
  refine lv_topi (fun z85 ez85 => ?_)
  replace hf := nmb hf ez85
  refine lv_istore (lv' := [(5, .int z85), (1, .int x1), (2, .int x2), (3, .int x3), (4, .int x4), (6, .int x6), (7, .int x7)]) hx hb dX8_odds_140 hl (by decide) rfl (fun ls hl => ?_)
  obtain ⟨z86, ez86⟩ : ∃ y : Int32, y = x7 + 1 := ⟨_, rfl⟩
  replace hf := nmb hf ez86
  refine lv_iinc (v := z86) (lv' := [(7, .int z86), (5, .int z85), (1, .int x1), (2, .int x2), (3, .int x3), (4, .int x4), (6, .int x6)]) hx hb dX8_odds_142 hl (k := 6) rfl (by rw [ez86]; rfl) (by decide) rfl (fun ls hl => ?_)
  refine lv_goto (tgt := 73) hx hb dX8_odds_145 (by decide) ?_
  exact hk73 x1 x2 x3 x4 z85 x6 z86 hf H locs ls hw (lv_sub hl [2, 3, 4, 5, 1, 6, 0] rfl)
set_option maxHeartbeats 4000000 in
set_option maxRecDepth 100000 in
theorem tX8_odds_113 {p : Program} {l : Launch} {e : Env} {s : State} {m : MethodId} {args : Array Value} {below : List Frame} {meth : Method} {c : Code} {E : EE} {b : Nat} {MC : Mem} {TC : Int64} {MM : Mem} {TM : Int64} {res : Int32} (X : CX E p s m args c cX8_odds 10 RX8) (hr : meth.sig.returnType = (some .int)) (hlk : meth.locks = false)   {k73 : Int32 → Int32 → Int32 → Int32 → Int32 → Int32 → Int32 → Option (Int32)} (hk73 : ∀ (x1 : Int32) (x2 : Int32) (x3 : Int32) (x4 : Int32) (x5 : Int32) (x6 : Int32) (x7 : Int32), k73 x1 x2 x3 x4 x5 x6 x7 = some res → ∀ (H : Heap) (locs : List Loc) (ls : Array Slot), WW E b MC TC MM TM s H locs → lv_has ls 10 [(1, .int x1), (2, .int x2), (3, .int x3), (4, .int x4), (5, .int x5), (6, .int x6), (7, .int x7)] → W p l e rmX8_odds s m args below meth c H locs 0 0 (MQ below (va_Qi (fun x (_ : Unit) => x = res) (fun _ t => PW E b MC TC MM TM t) (AA b)) args s 0 0 (AA b)) (F0 m 73 ls [])) {k87 : Int32 → Int32 → Int32 → Int32 → Int32 → Int32 → Int32 → Int32 → Int32 → Option (Int32)} (hk87 : ∀ (x1 : Int32) (x2 : Int32) (x3 : Int32) (x4 : Int32) (x5 : Int32) (x6 : Int32) (x7 : Int32) (x8 : Int32) (x9 : Int32), k87 x1 x2 x3 x4 x5 x6 x7 x8 x9 = some res → ∀ (H : Heap) (locs : List Loc) (ls : Array Slot), WW E b MC TC MM TM s H locs → lv_has ls 10 [(1, .int x1), (2, .int x2), (3, .int x3), (4, .int x4), (5, .int x5), (6, .int x6), (7, .int x7), (8, .int x8), (9, .int x9)] → W p l e rmX8_odds s m args below meth c H locs 0 0 (MQ below (va_Qi (fun x (_ : Unit) => x = res) (fun _ t => PW E b MC TC MM TM t) (AA b)) args s 0 0 (AA b)) (F0 m 87 ls [])) : ∀ (x1 : Int32) (x2 : Int32) (x3 : Int32) (x4 : Int32) (x5 : Int32) (x6 : Int32) (x7 : Int32) (x9 : Int32) (y0 : Int32) (y1 : Int32), gX8_odds_113 k73 k87 x1 x2 x3 x4 x5 x6 x7 x9 y0 y1 = some res → ∀ (H : Heap) (locs : List Loc) (ls : Array Slot), WW E b MC TC MM TM s H locs → lv_has ls 10 [(1, .int x1), (2, .int x2), (3, .int x3), (4, .int x4), (5, .int x5), (6, .int x6), (7, .int x7), (9, .int x9)] → W p l e rmX8_odds s m args below meth c H locs 0 0 (MQ below (va_Qi (fun x (_ : Unit) => x = res) (fun _ t => PW E b MC TC MM TM t) (AA b)) args s 0 0 (AA b)) (F0 m 113 ls [.int y0, .int y1]) := by
  have hx := X.1
  have hb := X.2.1
  intro x1 x2 x3 x4 x5 x6 x7 x9 y0 y1 hf H locs ls hw hl
  rw [gX8_odds_113] at hf
  refine lv_imul hx hb dX8_odds_113 ?_
  refine lv_topi (fun z90 ez90 => ?_)
  replace hf := nmb hf ez90
  refine lv_istore (lv' := [(8, .int z90), (1, .int x1), (2, .int x2), (3, .int x3), (4, .int x4), (5, .int x5), (6, .int x6), (7, .int x7), (9, .int x9)]) hx hb dX8_odds_114 hl (by decide) rfl (fun ls hl => ?_)
  obtain ⟨z91, ez91⟩ : ∃ y : Int32, y = x9 + 1 := ⟨_, rfl⟩
  replace hf := nmb hf ez91
  refine lv_iinc (v := z91) (lv' := [(9, .int z91), (8, .int z90), (1, .int x1), (2, .int x2), (3, .int x3), (4, .int x4), (5, .int x5), (6, .int x6), (7, .int x7)]) hx hb dX8_odds_116 hl (k := 8) rfl (by rw [ez91]; rfl) (by decide) rfl (fun ls hl => ?_)
  refine lv_goto (tgt := 87) hx hb dX8_odds_119 (by decide) ?_
  exact hk87 x1 x2 x3 x4 x5 x6 x7 z90 z91 hf H locs ls hw (lv_sub hl [2, 3, 4, 5, 6, 7, 8, 1, 0] rfl)
set_option maxHeartbeats 4000000 in
set_option maxRecDepth 100000 in
theorem tX8_odds_87 {p : Program} {l : Launch} {e : Env} {s : State} {m : MethodId} {args : Array Value} {below : List Frame} {meth : Method} {c : Code} {E : EE} {b : Nat} {MC : Mem} {TC : Int64} {MM : Mem} {TM : Int64} {res : Int32} (X : CX E p s m args c cX8_odds 10 RX8) (hr : meth.sig.returnType = (some .int)) (hlk : meth.locks = false)   {k73 : Int32 → Int32 → Int32 → Int32 → Int32 → Int32 → Int32 → Option (Int32)} (hk73 : ∀ (x1 : Int32) (x2 : Int32) (x3 : Int32) (x4 : Int32) (x5 : Int32) (x6 : Int32) (x7 : Int32), k73 x1 x2 x3 x4 x5 x6 x7 = some res → ∀ (H : Heap) (locs : List Loc) (ls : Array Slot), WW E b MC TC MM TM s H locs → lv_has ls 10 [(1, .int x1), (2, .int x2), (3, .int x3), (4, .int x4), (5, .int x5), (6, .int x6), (7, .int x7)] → W p l e rmX8_odds s m args below meth c H locs 0 0 (MQ below (va_Qi (fun x (_ : Unit) => x = res) (fun _ t => PW E b MC TC MM TM t) (AA b)) args s 0 0 (AA b)) (F0 m 73 ls [])) : ∀ (n : Nat) (x1 : Int32) (x2 : Int32) (x3 : Int32) (x4 : Int32) (x5 : Int32) (x6 : Int32) (x7 : Int32) (x8 : Int32) (x9 : Int32), gX8_odds_87 k73 n x1 x2 x3 x4 x5 x6 x7 x8 x9 = some res → ∀ (H : Heap) (locs : List Loc) (ls : Array Slot), WW E b MC TC MM TM s H locs → lv_has ls 10 [(1, .int x1), (2, .int x2), (3, .int x3), (4, .int x4), (5, .int x5), (6, .int x6), (7, .int x7), (8, .int x8), (9, .int x9)] → W p l e rmX8_odds s m args below meth c H locs 0 0 (MQ below (va_Qi (fun x (_ : Unit) => x = res) (fun _ t => PW E b MC TC MM TM t) (AA b)) args s 0 0 (AA b)) (F0 m 87 ls []) := by
  have hx := X.1
  have hb := X.2.1
  intro n
  induction n with
  | zero =>
    intro x1 x2 x3 x4 x5 x6 x7 x8 x9 hf
    cases (show (none : Option (Int32)) = some res from hf)
  | succ n ih =>
    intro x1 x2 x3 x4 x5 x6 x7 x8 x9 hf H locs ls hw hl
    rw [gX8_odds_87] at hf
    refine lv_iload hx hb dX8_odds_87 (lv_at hl 8 rfl) ?_
    refine lv_iload_n hx hb dX8_odds_89 rfl (lv_at hl 2 rfl) ?_
    refine lv_icmp_ge (tgt := 122) hx hb dX8_odds_90 (by decide) (fun c81 => ?_) (fun c81 => ?_)
    · replace hf := (if_pos c81).symm.trans hf
      refine lv_iload hx hb dX8_odds_122 (lv_at hl 4 rfl) ?_
      refine lv_iload hx hb dX8_odds_124 (lv_at hl 6 rfl) ?_
      obtain ⟨u82, q83, hf⟩ := ob hf
      refine cSi (As := [.int x7]) X hw (ctX8_bits l E b  q83) ⟨mw_973, mw_974, mw_61, mw_975⟩ hd_X8_bits ⟨Nat.le_of_ble_eq_true rfl, Nat.le_of_ble_eq_true rfl, rfl, rfl⟩ rfl hl.1 rfl (Nat.le_of_ble_eq_true rfl) dX8_odds_126 (fun H locs hw => ?_)
      refine lv_iload_n hx hb dX8_odds_129 rfl (lv_at hl 1 rfl) ?_
      refine lv_icmp_ne (tgt := 138) hx hb dX8_odds_130 (by decide) (fun c84 => ?_) (fun c84 => ?_)
      · replace hf := (if_neg c84).symm.trans hf
        refine lv_iconst (v := 0) hx hb dX8_odds_138 (by decide) ?_
        exact tX8_odds_139 X hr hlk hk73 x1 x2 x3 x4 x6 x7 0 x5 hf H locs ls hw (lv_sub hl [0, 1, 2, 3, 5, 6] rfl)
      · replace hf := (if_pos c84).symm.trans hf
        refine lv_iload hx hb dX8_odds_133 (lv_at hl 7 rfl) ?_
        refine lv_goto (tgt := 139) hx hb dX8_odds_135 (by decide) ?_
        exact tX8_odds_139 X hr hlk hk73 x1 x2 x3 x4 x6 x7 x8 x5 hf H locs ls hw (lv_sub hl [0, 1, 2, 3, 5, 6] rfl)
    · replace hf := (if_neg c81).symm.trans hf
      refine lv_iload hx hb dX8_odds_93 (lv_at hl 7 rfl) ?_
      refine lv_iload hx hb dX8_odds_95 (lv_at hl 6 rfl) ?_
      refine lv_iload hx hb dX8_odds_97 (lv_at hl 8 rfl) ?_
      obtain ⟨u87, q88, hf⟩ := ob hf
      refine cSi (As := [.int x7, .int x9]) X hw (ctX8_has l E b  q88) ⟨mw_966, mw_967, mw_61, mw_968⟩ hd_X8_has ⟨Nat.le_of_ble_eq_true rfl, Nat.le_of_ble_eq_true rfl, rfl, rfl⟩ rfl hl.1 rfl (Nat.le_of_ble_eq_true rfl) dX8_odds_99 (fun H locs hw => ?_)
      refine lv_if_eq (tgt := 109) hx hb dX8_odds_102 (by decide) (fun c89 => ?_) (fun c89 => ?_)
      · replace hf := (if_pos c89).symm.trans hf
        refine lv_bipush (v := 10) hx hb dX8_odds_109 (by decide) ?_
        refine lv_iload_n hx hb dX8_odds_111 rfl (lv_at hl 0 rfl) ?_
        refine lv_isub hx hb dX8_odds_112 ?_
        exact tX8_odds_113 X hr hlk hk73 ih x1 x2 x3 x4 x5 x6 x7 x9 (10 - x1) x8 hf H locs ls hw (lv_sub hl [0, 1, 2, 3, 4, 5, 6, 8] rfl)
      · replace hf := (if_neg c89).symm.trans hf
        refine lv_iload_n hx hb dX8_odds_105 rfl (lv_at hl 0 rfl) ?_
        refine lv_goto (tgt := 113) hx hb dX8_odds_106 (by decide) ?_
        exact tX8_odds_113 X hr hlk hk73 ih x1 x2 x3 x4 x5 x6 x7 x9 x1 x8 hf H locs ls hw (lv_sub hl [0, 1, 2, 3, 4, 5, 6, 8] rfl)
set_option maxHeartbeats 4000000 in
set_option maxRecDepth 100000 in
theorem tX8_odds_73 {p : Program} {l : Launch} {e : Env} {s : State} {m : MethodId} {args : Array Value} {below : List Frame} {meth : Method} {c : Code} {E : EE} {b : Nat} {MC : Mem} {TC : Int64} {MM : Mem} {TM : Int64} {res : Int32} (X : CX E p s m args c cX8_odds 10 RX8) (hr : meth.sig.returnType = (some .int)) (hlk : meth.locks = false)    : ∀ (n : Nat) (x1 : Int32) (x2 : Int32) (x3 : Int32) (x4 : Int32) (x5 : Int32) (x6 : Int32) (x7 : Int32), gX8_odds_73 n x1 x2 x3 x4 x5 x6 x7 = some res → ∀ (H : Heap) (locs : List Loc) (ls : Array Slot), WW E b MC TC MM TM s H locs → lv_has ls 10 [(1, .int x1), (2, .int x2), (3, .int x3), (4, .int x4), (5, .int x5), (6, .int x6), (7, .int x7)] → W p l e rmX8_odds s m args below meth c H locs 0 0 (MQ below (va_Qi (fun x (_ : Unit) => x = res) (fun _ t => PW E b MC TC MM TM t) (AA b)) args s 0 0 (AA b)) (F0 m 73 ls []) := by
  have hx := X.1
  have hb := X.2.1
  intro n
  induction n with
  | zero =>
    intro x1 x2 x3 x4 x5 x6 x7 hf
    cases (show (none : Option (Int32)) = some res from hf)
  | succ n ih =>
    intro x1 x2 x3 x4 x5 x6 x7 hf H locs ls hw hl
    rw [gX8_odds_73] at hf
    refine lv_iload hx hb dX8_odds_73 (lv_at hl 6 rfl) ?_
    refine lv_iconst (v := 1) hx hb dX8_odds_75 (by decide) ?_
    refine lv_iload_n hx hb dX8_odds_76 rfl (lv_at hl 2 rfl) ?_
    refine lv_ishl hx hb dX8_odds_77 ?_
    refine lv_icmp_ge (tgt := 148) hx hb dX8_odds_78 (by decide) (fun c78 => ?_) (fun c78 => ?_)
    · replace hf := (if_pos c78).symm.trans hf
      refine lv_iload hx hb dX8_odds_148 (lv_at hl 4 rfl) ?_
      refine lv_iload hx hb dX8_odds_150 (lv_at hl 5 rfl) ?_
      refine lv_iload hx hb dX8_odds_152 (lv_at hl 3 rfl) ?_
      obtain ⟨u79, q80, hf⟩ := ob hf
      refine cSi (As := [.int x5, .int x6, .int x4]) X hw (ctX8_lowest l E b  q80) ⟨mw_988, mw_989, mw_61, mw_990⟩ hd_X8_lowest ⟨Nat.le_of_ble_eq_true rfl, Nat.le_of_ble_eq_true rfl, rfl, rfl⟩ rfl hl.1 rfl (Nat.le_of_ble_eq_true rfl) dX8_odds_154 (fun H locs hw => ?_)
      replace hf := Option.some.inj hf
      subst hf
      exact eI X hw hr hlk dX8_odds_157
    · replace hf := (if_neg c78).symm.trans hf
      refine lv_iconst (v := 1) hx hb dX8_odds_81 (by decide) ?_
      refine lv_istore (lv' := [(8, .int 1), (1, .int x1), (2, .int x2), (3, .int x3), (4, .int x4), (5, .int x5), (6, .int x6), (7, .int x7)]) hx hb dX8_odds_82 hl (by decide) rfl (fun ls hl => ?_)
      refine lv_iconst (v := 0) hx hb dX8_odds_84 (by decide) ?_
      refine lv_istore (lv' := [(9, .int 0), (8, .int 1), (1, .int x1), (2, .int x2), (3, .int x3), (4, .int x4), (5, .int x5), (6, .int x6), (7, .int x7)]) hx hb dX8_odds_85 hl (by decide) rfl (fun ls hl => ?_)
      exact tX8_odds_87 X hr hlk ih FU x1 x2 x3 x4 x5 x6 x7 1 0 hf H locs ls hw (lv_sub hl [2, 3, 4, 5, 6, 7, 8, 1, 0] rfl)
set_option maxHeartbeats 4000000 in
set_option maxRecDepth 100000 in
theorem tX8_odds_51 {p : Program} {l : Launch} {e : Env} {s : State} {m : MethodId} {args : Array Value} {below : List Frame} {meth : Method} {c : Code} {E : EE} {b : Nat} {MC : Mem} {TC : Int64} {MM : Mem} {TM : Int64} {res : Int32} (X : CX E p s m args c cX8_odds 10 RX8) (hr : meth.sig.returnType = (some .int)) (hlk : meth.locks = false)    : ∀ (n : Nat) (x1 : Int32) (x2 : Int32) (x3 : Int32) (x4 : Int32) (x5 : Int32) (x6 : Int32) (x7 : Int32), gX8_odds_51 n x1 x2 x3 x4 x5 x6 x7 = some res → ∀ (H : Heap) (locs : List Loc) (ls : Array Slot), WW E b MC TC MM TM s H locs → lv_has ls 10 [(1, .int x1), (2, .int x2), (3, .int x3), (4, .int x4), (5, .int x5), (6, .int x6), (7, .int x7)] → W p l e rmX8_odds s m args below meth c H locs 0 0 (MQ below (va_Qi (fun x (_ : Unit) => x = res) (fun _ t => PW E b MC TC MM TM t) (AA b)) args s 0 0 (AA b)) (F0 m 51 ls []) := by
  have hx := X.1
  have hb := X.2.1
  intro n
  induction n with
  | zero =>
    intro x1 x2 x3 x4 x5 x6 x7 hf
    cases (show (none : Option (Int32)) = some res from hf)
  | succ n ih =>
    intro x1 x2 x3 x4 x5 x6 x7 hf H locs ls hw hl
    rw [gX8_odds_51] at hf
    refine lv_iload hx hb dX8_odds_51 (lv_at hl 6 rfl) ?_
    refine lv_iload_n hx hb dX8_odds_53 rfl (lv_at hl 2 rfl) ?_
    refine lv_icmp_ge (tgt := 70) hx hb dX8_odds_54 (by decide) (fun c77 => ?_) (fun c77 => ?_)
    · replace hf := (if_pos c77).symm.trans hf
      refine lv_iconst (v := 0) hx hb dX8_odds_70 (by decide) ?_
      refine lv_istore (lv' := [(7, .int 0), (1, .int x1), (2, .int x2), (3, .int x3), (4, .int x4), (5, .int x5), (6, .int x6)]) hx hb dX8_odds_71 hl (by decide) rfl (fun ls hl => ?_)
      exact tX8_odds_73 X hr hlk FU x1 x2 x3 x4 x5 x6 0 hf H locs ls hw (lv_sub hl [1, 2, 3, 4, 5, 6, 0] rfl)
    · replace hf := (if_neg c77).symm.trans hf
      refine lv_iload hx hb dX8_odds_57 (lv_at hl 5 rfl) ?_
      refine lv_bipush (v := 10) hx hb dX8_odds_59 (by decide) ?_
      refine lv_imul hx hb dX8_odds_61 ?_
      refine lv_topi (fun z92 ez92 => ?_)
      replace hf := nmb hf ez92
      refine lv_istore (lv' := [(6, .int z92), (1, .int x1), (2, .int x2), (3, .int x3), (4, .int x4), (5, .int x5), (7, .int x7)]) hx hb dX8_odds_62 hl (by decide) rfl (fun ls hl => ?_)
      obtain ⟨z93, ez93⟩ : ∃ y : Int32, y = x7 + 1 := ⟨_, rfl⟩
      replace hf := nmb hf ez93
      refine lv_iinc (v := z93) (lv' := [(7, .int z93), (6, .int z92), (1, .int x1), (2, .int x2), (3, .int x3), (4, .int x4), (5, .int x5)]) hx hb dX8_odds_64 hl (k := 6) rfl (by rw [ez93]; rfl) (by decide) rfl (fun ls hl => ?_)
      refine lv_goto (tgt := 51) hx hb dX8_odds_67 (by decide) ?_
      exact ih x1 x2 x3 x4 x5 z92 z93 hf H locs ls hw (lv_sub hl [2, 3, 4, 5, 6, 1, 0] rfl)
set_option maxHeartbeats 4000000 in
set_option maxRecDepth 100000 in
theorem ctX8_odds (l : Launch) (E : EE) (b : Nat) {MC : Mem} {TC : Int64} {MM : Mem} {TM : Int64} {x1 : Int32} {x2 : Int32} {x3 : Int32} {x4 : Int32} {res : Int32}  (hf : gX8_odds x1 x2 x3 x4 = some res) : MetI l E b yX8_odds (.code yX8_odds cX8_odds 10 (some .int)) rmX8_odds [.ref (b + 197), .int x1, .int x2, .int x3, .int x4] MC TC MM TM res MC TC MM TM := by
  refine Met.ofW (cc := cX8_odds) (maxL := 10) (ret := (some .int)) (by decide) rfl ?_
  intro p e s m args below meth c s₁ B hml hv
  obtain ⟨rfl, hP, hK⟩ := hv
  have hx := B.exec
  have hb := B.bytes
  have X : CX E p s m _ c cX8_odds 10 RX8 := ⟨hx, hb, hml, findClass_of_methodNamed B.named, fun w h => atoms_spec (ws := _ :: wt) B.pre w (List.mem_cons_of_mem _ h), hK⟩
  have hr := B.returns
  have hlk := B.notSynchronized
  have hw : WW E b MC TC MM TM s s.heap [] := ⟨hP, va_S.rf⟩
  have hl := lv_entry ([.ref (b + 197), .int x1, .int x2, .int x3, .int x4]) (n := 10) (Nat.le_of_ble_eq_true rfl)
  rw [lg_entry_eq]
  generalize (lg_sl ([.ref (b + 197), .int x1, .int x2, .int x3, .int x4]) ++ List.replicate (10 - (lg_sl ([.ref (b + 197), .int x1, .int x2, .int x3, .int x4])).length) Slot.unset).toArray = ls at hl ⊢
  have hl : lv_has ls 10 [(0, .ref (b + 197)), (1, .int x1), (2, .int x2), (3, .int x3), (4, .int x4)] := hl
  obtain ⟨H, hH⟩ : ∃ H, H = s.heap := ⟨_, rfl⟩
  obtain ⟨locs, hL⟩ : ∃ L : List Loc, L = [] := ⟨_, rfl⟩
  rw [← hH, ← hL] at hw
  suffices hg : W p l e rmX8_odds s m _ below meth c H locs 0 0 (MQ below (va_Qi (fun x (_ : Unit) => x = res) (fun _ t => PW E b MC TC MM TM t) (AA b)) _ s 0 0 (AA b)) (F0 m 0 ls []) by rw [hH, hL] at hg; exact hg
  clear hH hL
  rw [gX8_odds] at hf
  refine lv_iload_n hx hb dX8_odds_0 rfl (lv_at hl 1 rfl) ?_
  refine lv_iconst (v := 0) hx hb dX8_odds_1 (by decide) ?_
  refine lv_bipush (v := 10) hx hb dX8_odds_2 (by decide) ?_
  obtain ⟨u65, q66, hf⟩ := ob hf
  refine cSi (As := [.int x1, .int 0, .int 10]) X hw (ctX8_in l E b  q66) ⟨mw_819, mw_820, mw_61, mw_821⟩ hd_X8_in ⟨Nat.le_of_ble_eq_true rfl, Nat.le_of_ble_eq_true rfl, rfl, rfl⟩ rfl hl.1 rfl (Nat.le_of_ble_eq_true rfl) dX8_odds_4 (fun H locs hw => ?_)
  refine lv_if_eq (tgt := 40) hx hb dX8_odds_7 (by decide) (fun c67 => ?_) (fun c67 => ?_)
  · replace hf := (if_pos c67).symm.trans hf
    refine lv_iconst (v := (-1)) hx hb dX8_odds_40 (by decide) ?_
    replace hf := Option.some.inj hf
    subst hf
    exact eI X hw hr hlk dX8_odds_41
  · replace hf := (if_neg c67).symm.trans hf
    refine lv_iload_n hx hb dX8_odds_10 rfl (lv_at hl 2 rfl) ?_
    refine lv_iconst (v := 0) hx hb dX8_odds_11 (by decide) ?_
    refine lv_bipush (v := 7) hx hb dX8_odds_12 (by decide) ?_
    obtain ⟨u68, q69, hf⟩ := ob hf
    refine cSi (As := [.int x2, .int 0, .int 7]) X hw (ctX8_in l E b  q69) ⟨mw_819, mw_820, mw_61, mw_821⟩ hd_X8_in ⟨Nat.le_of_ble_eq_true rfl, Nat.le_of_ble_eq_true rfl, rfl, rfl⟩ rfl hl.1 rfl (Nat.le_of_ble_eq_true rfl) dX8_odds_14 (fun H locs hw => ?_)
    refine lv_if_eq (tgt := 40) hx hb dX8_odds_17 (by decide) (fun c70 => ?_) (fun c70 => ?_)
    · replace hf := (if_pos c70).symm.trans hf
      refine lv_iconst (v := (-1)) hx hb dX8_odds_40 (by decide) ?_
      replace hf := Option.some.inj hf
      subst hf
      exact eI X hw hr hlk dX8_odds_41
    · replace hf := (if_neg c70).symm.trans hf
      refine lv_iload_n hx hb dX8_odds_20 rfl (lv_at hl 3 rfl) ?_
      refine lv_iconst (v := 0) hx hb dX8_odds_21 (by decide) ?_
      refine lv_bipush (v := 7) hx hb dX8_odds_22 (by decide) ?_
      obtain ⟨u71, q72, hf⟩ := ob hf
      refine cSi (As := [.int x3, .int 0, .int 7]) X hw (ctX8_in l E b  q72) ⟨mw_819, mw_820, mw_61, mw_821⟩ hd_X8_in ⟨Nat.le_of_ble_eq_true rfl, Nat.le_of_ble_eq_true rfl, rfl, rfl⟩ rfl hl.1 rfl (Nat.le_of_ble_eq_true rfl) dX8_odds_24 (fun H locs hw => ?_)
      refine lv_if_eq (tgt := 40) hx hb dX8_odds_27 (by decide) (fun c73 => ?_) (fun c73 => ?_)
      · replace hf := (if_pos c73).symm.trans hf
        refine lv_iconst (v := (-1)) hx hb dX8_odds_40 (by decide) ?_
        replace hf := Option.some.inj hf
        subst hf
        exact eI X hw hr hlk dX8_odds_41
      · replace hf := (if_neg c73).symm.trans hf
        refine lv_iload hx hb dX8_odds_30 (lv_at hl 4 rfl) ?_
        refine lv_iconst (v := 0) hx hb dX8_odds_32 (by decide) ?_
        refine lv_iconst (v := 1) hx hb dX8_odds_33 (by decide) ?_
        obtain ⟨u74, q75, hf⟩ := ob hf
        refine cSi (As := [.int x4, .int 0, .int 1]) X hw (ctX8_in l E b  q75) ⟨mw_819, mw_820, mw_61, mw_821⟩ hd_X8_in ⟨Nat.le_of_ble_eq_true rfl, Nat.le_of_ble_eq_true rfl, rfl, rfl⟩ rfl hl.1 rfl (Nat.le_of_ble_eq_true rfl) dX8_odds_34 (fun H locs hw => ?_)
        refine lv_if_ne (tgt := 42) hx hb dX8_odds_37 (by decide) (fun c76 => ?_) (fun c76 => ?_)
        · replace hf := (if_neg c76).symm.trans hf
          refine lv_iconst (v := 0) hx hb dX8_odds_42 (by decide) ?_
          refine lv_istore (lv' := [(5, .int 0), (0, .ref (b + 197)), (1, .int x1), (2, .int x2), (3, .int x3), (4, .int x4)]) hx hb dX8_odds_43 hl (by decide) rfl (fun ls hl => ?_)
          refine lv_iconst (v := 1) hx hb dX8_odds_45 (by decide) ?_
          refine lv_istore (lv' := [(6, .int 1), (5, .int 0), (0, .ref (b + 197)), (1, .int x1), (2, .int x2), (3, .int x3), (4, .int x4)]) hx hb dX8_odds_46 hl (by decide) rfl (fun ls hl => ?_)
          refine lv_iconst (v := 0) hx hb dX8_odds_48 (by decide) ?_
          refine lv_istore (lv' := [(7, .int 0), (6, .int 1), (5, .int 0), (0, .ref (b + 197)), (1, .int x1), (2, .int x2), (3, .int x3), (4, .int x4)]) hx hb dX8_odds_49 hl (by decide) rfl (fun ls hl => ?_)
          exact tX8_odds_51 X hr hlk FU x1 x2 x3 x4 0 1 0 hf H locs ls hw (lv_sub hl [4, 5, 6, 7, 2, 1, 0] rfl)
        · replace hf := (if_pos c76).symm.trans hf
          refine lv_iconst (v := (-1)) hx hb dX8_odds_40 (by decide) ?_
          replace hf := Option.some.inj hf
          subst hf
          exact eI X hw hr hlk dX8_odds_41

abbrev rmX8_saw : Room := { frames := 2, cells := 0, slots := 0, locals := 42 }
theorem hd_X8_saw : Hd yX8_saw RX8 1 := by decide +kernel
def gX8_saw (x1 : Int32) (M : Mem) : Option (Int32 × Mem) := (gX8_isThought x1).bind fun u94 => if u94 = 0 then (some ((-1), M)) else (if (M 197 8) = 4 then (some ((-3), M)) else ((stA 4 M 204 (M 197 8) x1).bind fun M98 => (some (us M98 197 8 ((M98 197 8) + 1))).bind fun M100 => some (M100 197 8, M100)))
set_option maxHeartbeats 4000000 in
set_option maxRecDepth 100000 in
theorem ctX8_saw (l : Launch) (E : EE) (b : Nat) {MC : Mem} {TC : Int64} {TM : Int64} {x1 : Int32} {M : Mem} {res : Int32 × Mem}  (hf : gX8_saw x1 M = some res) : MetI l E b yX8_saw (.code yX8_saw cX8_saw 2 (some .int)) rmX8_saw [.ref (b + 197), .int x1] MC TC M TM res.1 MC TC res.2 TM := by
  refine Met.ofW (cc := cX8_saw) (maxL := 2) (ret := (some .int)) (by decide) rfl ?_
  intro p e s m args below meth c s₁ B hml hv
  obtain ⟨rfl, hP, hK⟩ := hv
  have hx := B.exec
  have hb := B.bytes
  have X : CX E p s m _ c cX8_saw 2 RX8 := ⟨hx, hb, hml, findClass_of_methodNamed B.named, fun w h => atoms_spec (ws := _ :: wt) B.pre w (List.mem_cons_of_mem _ h), hK⟩
  have hr := B.returns
  have hlk := B.notSynchronized
  have hw : WW E b MC TC M TM s s.heap [] := ⟨hP, va_S.rf⟩
  have hl := lv_entry ([.ref (b + 197), .int x1]) (n := 2) (Nat.le_of_ble_eq_true rfl)
  rw [lg_entry_eq]
  generalize (lg_sl ([.ref (b + 197), .int x1]) ++ List.replicate (2 - (lg_sl ([.ref (b + 197), .int x1])).length) Slot.unset).toArray = ls at hl ⊢
  have hl : lv_has ls 2 [(0, .ref (b + 197)), (1, .int x1)] := hl
  obtain ⟨H, hH⟩ : ∃ H, H = s.heap := ⟨_, rfl⟩
  obtain ⟨locs, hL⟩ : ∃ L : List Loc, L = [] := ⟨_, rfl⟩
  rw [← hH, ← hL] at hw
  suffices hg : W p l e rmX8_saw s m _ below meth c H locs 0 0 (MQ below (va_Qi (fun x (_ : Unit) => x = res.1) (fun _ t => PW E b MC TC res.2 TM t) (AA b)) _ s 0 0 (AA b)) (F0 m 0 ls []) by rw [hH, hL] at hg; exact hg
  clear hH hL
  rw [gX8_saw] at hf
  refine lv_iload_n hx hb dX8_saw_0 rfl (lv_at hl 1 rfl) ?_
  obtain ⟨u94, q95, hf⟩ := ob hf
  refine cSi (As := [.int x1]) X hw (ctX8_isThought l E b  q95) ⟨mw_895, mw_896, mw_61, mw_897⟩ hd_X8_isThought ⟨Nat.le_of_ble_eq_true rfl, Nat.le_of_ble_eq_true rfl, rfl, rfl⟩ rfl hl.1 rfl (Nat.le_of_ble_eq_true rfl) dX8_saw_1 (fun H locs hw => ?_)
  refine lv_if_ne (tgt := 9) hx hb dX8_saw_4 (by decide) (fun c96 => ?_) (fun c96 => ?_)
  · replace hf := (if_neg c96).symm.trans hf
    refine lv_aload_n hx hb dX8_saw_9 rfl (lv_at hl 0 rfl) ?_
    refine gt_X8 X hw 8 kk_197 rfl (by decide) mw_729 rfl dX8_saw_10 ?_
    refine lv_iconst (v := 4) hx hb dX8_saw_13 (by decide) ?_
    refine lv_icmp_ne (tgt := 20) hx hb dX8_saw_14 (by decide) (fun c97 => ?_) (fun c97 => ?_)
    · replace hf := (if_neg c97).symm.trans hf
      refine lv_aload_n hx hb dX8_saw_20 rfl (lv_at hl 0 rfl) ?_
      refine gt_X8 X hw 9 kk_197 rfl (by decide) mw_730 rfl dX8_saw_21 ?_
      refine lv_aload_n hx hb dX8_saw_24 rfl (lv_at hl 0 rfl) ?_
      refine gt_X8 X hw 8 kk_197 rfl (by decide) mw_729 rfl dX8_saw_25 ?_
      refine lv_iload_n hx hb dX8_saw_28 rfl (lv_at hl 1 rfl) ?_
      obtain ⟨M98, q99, hf⟩ := ob hf
      refine astM X hw kdv_204 q99 dX8_saw_29 (fun H locs hw => ?_)
      refine lv_aload_n hx hb dX8_saw_30 rfl (lv_at hl 0 rfl) ?_
      refine lv_dup hx hb dX8_saw_31 rfl ?_
      refine gt_X8 X hw 8 kk_197 rfl (by decide) mw_729 rfl dX8_saw_32 ?_
      refine lv_iconst (v := 1) hx hb dX8_saw_35 (by decide) ?_
      refine lv_iadd hx hb dX8_saw_36 ?_
      obtain ⟨M100, eM100, hf⟩ := ob hf
      refine pt_X8_8 X hw kk_197 mw_729 dX8_saw_37 (fun H locs hw => ?_)
      rw [Option.some.inj eM100] at hw
      refine lv_aload_n hx hb dX8_saw_40 rfl (lv_at hl 0 rfl) ?_
      refine gt_X8 X hw 8 kk_197 rfl (by decide) mw_729 rfl dX8_saw_41 ?_
      replace hf := Option.some.inj hf
      subst hf
      exact eI X hw hr hlk dX8_saw_44
    · replace hf := (if_pos c97).symm.trans hf
      refine lv_bipush (v := (-3)) hx hb dX8_saw_17 (by decide) ?_
      replace hf := Option.some.inj hf
      subst hf
      exact eI X hw hr hlk dX8_saw_19
  · replace hf := (if_pos c96).symm.trans hf
    refine lv_iconst (v := (-1)) hx hb dX8_saw_7 (by decide) ?_
    replace hf := Option.some.inj hf
    subst hf
    exact eI X hw hr hlk dX8_saw_8

abbrev rmX8_isLock : Room := { frames := 1, cells := 0, slots := 0, locals := 22 }
theorem hd_X8_isLock : Hd yX8_isLock RX8 2 := by decide +kernel
def gX8_isLock_70   (x3 : Int32) (M : Mem) : Option (Int32) := (zr x3).bind fun v105 => some (v105)
def gX8_isLock_63  (k26 : Int32 → Int32 → Int32 → Int32 → Mem → Option (Int32)) (x1 : Int32) (x2 : Int32) (x4 : Int32) (y0 : Int32) (M : Mem) : Option (Int32) := (some (x4 + 1)).bind fun z113 => k26 x1 x2 y0 z113 M
def gX8_isLock_26   : Nat → Int32 → Int32 → Int32 → Int32 → Mem → Option (Int32)
  | 0, _, _, _, _, _ => none
  | n + 1, x1, x2, x3, x4, M => if (M 197 8) ≤ x4 then (gX8_isLock_70 x3 M) else (if x3 = 0 then (gX8_isLock_70 x3 M) else ((gX8_layerOf x1 (x2 + x4) M).bind fun u108 => (ldA 4 (M 204) x4).bind fun v110 => if u108 = v110 then (gX8_isLock_63 (gX8_isLock_26 n) x1 x2 x4 1 M) else (gX8_isLock_63 (gX8_isLock_26 n) x1 x2 x4 0 M)))
def gX8_isLock_22   (x1 : Int32) (x2 : Int32) (y0 : Int32) (M : Mem) : Option (Int32) := gX8_isLock_26 FU x1 x2 y0 0 M
def gX8_isLock (x1 : Int32) (x2 : Int32) (M : Mem) : Option (Int32) := (ldA 1233 (M 201) (2 + x1)).bind fun v101 => if v101 < (x2 + (M 197 8)) then (gX8_isLock_22 x1 x2 0 M) else (gX8_isLock_22 x1 x2 1 M)
set_option maxHeartbeats 4000000 in
set_option maxRecDepth 100000 in
theorem tX8_isLock_70 {p : Program} {l : Launch} {e : Env} {s : State} {m : MethodId} {args : Array Value} {below : List Frame} {meth : Method} {c : Code} {E : EE} {b : Nat} {MC : Mem} {TC : Int64} {TM : Int64} {res : Int32} (X : CX E p s m args c cX8_isLock 5 RX8) (hr : meth.sig.returnType = (some .boolean)) (hlk : meth.locks = false)    : ∀ (x3 : Int32) (M : Mem), gX8_isLock_70 x3 M = some res → ∀ (H : Heap) (locs : List Loc) (ls : Array Slot), WW E b MC TC M TM s H locs → lv_has ls 5 [(3, .int x3)] → W p l e rmX8_isLock s m args below meth c H locs 0 0 (MQ below (va_Qi (fun x (_ : Unit) => x = res) (fun _ t => PW E b MC TC M TM t) (AA b)) args s 0 0 (AA b)) (F0 m 70 ls []) := by
  have hx := X.1
  have hb := X.2.1
  intro x3 M hf H locs ls hw hl
  rw [gX8_isLock_70] at hf
  refine lv_iload_n hx hb dX8_isLock_70 rfl (lv_at hl 0 rfl) ?_
  obtain ⟨v105, q106, hf⟩ := ob hf
  obtain ⟨eq106, q106⟩ := zr_s q106
  rw [eq106]
  replace hf := Option.some.inj hf
  subst hf
  exact eZ X hw q106 hr hlk dX8_isLock_71
set_option maxHeartbeats 4000000 in
set_option maxRecDepth 100000 in
theorem tX8_isLock_63 {p : Program} {l : Launch} {e : Env} {s : State} {m : MethodId} {args : Array Value} {below : List Frame} {meth : Method} {c : Code} {E : EE} {b : Nat} {MC : Mem} {TC : Int64} {TM : Int64} {res : Int32} (X : CX E p s m args c cX8_isLock 5 RX8) (hr : meth.sig.returnType = (some .boolean)) (hlk : meth.locks = false)   {k26 : Int32 → Int32 → Int32 → Int32 → Mem → Option (Int32)} (hk26 : ∀ (x1 : Int32) (x2 : Int32) (x3 : Int32) (x4 : Int32) (M : Mem), k26 x1 x2 x3 x4 M = some res → ∀ (H : Heap) (locs : List Loc) (ls : Array Slot), WW E b MC TC M TM s H locs → lv_has ls 5 [(0, .ref (b + 197)), (1, .int x1), (2, .int x2), (3, .int x3), (4, .int x4)] → W p l e rmX8_isLock s m args below meth c H locs 0 0 (MQ below (va_Qi (fun x (_ : Unit) => x = res) (fun _ t => PW E b MC TC M TM t) (AA b)) args s 0 0 (AA b)) (F0 m 26 ls [])) : ∀ (x1 : Int32) (x2 : Int32) (x4 : Int32) (y0 : Int32) (M : Mem), gX8_isLock_63 k26 x1 x2 x4 y0 M = some res → ∀ (H : Heap) (locs : List Loc) (ls : Array Slot), WW E b MC TC M TM s H locs → lv_has ls 5 [(0, .ref (b + 197)), (1, .int x1), (2, .int x2), (4, .int x4)] → W p l e rmX8_isLock s m args below meth c H locs 0 0 (MQ below (va_Qi (fun x (_ : Unit) => x = res) (fun _ t => PW E b MC TC M TM t) (AA b)) args s 0 0 (AA b)) (F0 m 63 ls [.int y0]) := by
  have hx := X.1
  have hb := X.2.1
  intro x1 x2 x4 y0 M hf H locs ls hw hl
  rw [gX8_isLock_63] at hf
  refine lv_istore_n (lv' := [(3, .int y0), (0, .ref (b + 197)), (1, .int x1), (2, .int x2), (4, .int x4)]) hx hb dX8_isLock_63 rfl hl (by decide) rfl (fun ls hl => ?_)
  obtain ⟨z113, ez113⟩ : ∃ y : Int32, y = x4 + 1 := ⟨_, rfl⟩
  replace hf := nmb hf ez113
  refine lv_iinc (v := z113) (lv' := [(4, .int z113), (3, .int y0), (0, .ref (b + 197)), (1, .int x1), (2, .int x2)]) hx hb dX8_isLock_64 hl (k := 4) rfl (by rw [ez113]; rfl) (by decide) rfl (fun ls hl => ?_)
  refine lv_goto (tgt := 26) hx hb dX8_isLock_67 (by decide) ?_
  exact hk26 x1 x2 y0 z113 M hf H locs ls hw (lv_sub hl [2, 3, 4, 1, 0] rfl)
set_option maxHeartbeats 4000000 in
set_option maxRecDepth 100000 in
theorem tX8_isLock_26 {p : Program} {l : Launch} {e : Env} {s : State} {m : MethodId} {args : Array Value} {below : List Frame} {meth : Method} {c : Code} {E : EE} {b : Nat} {MC : Mem} {TC : Int64} {TM : Int64} {res : Int32} (X : CX E p s m args c cX8_isLock 5 RX8) (hr : meth.sig.returnType = (some .boolean)) (hlk : meth.locks = false)    : ∀ (n : Nat) (x1 : Int32) (x2 : Int32) (x3 : Int32) (x4 : Int32) (M : Mem), gX8_isLock_26 n x1 x2 x3 x4 M = some res → ∀ (H : Heap) (locs : List Loc) (ls : Array Slot), WW E b MC TC M TM s H locs → lv_has ls 5 [(0, .ref (b + 197)), (1, .int x1), (2, .int x2), (3, .int x3), (4, .int x4)] → W p l e rmX8_isLock s m args below meth c H locs 0 0 (MQ below (va_Qi (fun x (_ : Unit) => x = res) (fun _ t => PW E b MC TC M TM t) (AA b)) args s 0 0 (AA b)) (F0 m 26 ls []) := by
  have hx := X.1
  have hb := X.2.1
  intro n
  induction n with
  | zero =>
    intro x1 x2 x3 x4 M hf
    cases (show (none : Option (Int32)) = some res from hf)
  | succ n ih =>
    intro x1 x2 x3 x4 M hf H locs ls hw hl
    rw [gX8_isLock_26] at hf
    refine lv_iload hx hb dX8_isLock_26 (lv_at hl 4 rfl) ?_
    refine lv_aload_n hx hb dX8_isLock_28 rfl (lv_at hl 0 rfl) ?_
    refine gt_X8 X hw 8 kk_197 rfl (by decide) mw_729 rfl dX8_isLock_29 ?_
    refine lv_icmp_ge (tgt := 70) hx hb dX8_isLock_32 (by decide) (fun c104 => ?_) (fun c104 => ?_)
    · replace hf := (if_pos c104).symm.trans hf
      exact tX8_isLock_70 X hr hlk x3 M hf H locs ls hw (lv_sub hl [3] rfl)
    · replace hf := (if_neg c104).symm.trans hf
      refine lv_iload_n hx hb dX8_isLock_35 rfl (lv_at hl 3 rfl) ?_
      refine lv_if_eq (tgt := 70) hx hb dX8_isLock_36 (by decide) (fun c107 => ?_) (fun c107 => ?_)
      · replace hf := (if_pos c107).symm.trans hf
        exact tX8_isLock_70 X hr hlk x3 M hf H locs ls hw (lv_sub hl [3] rfl)
      · replace hf := (if_neg c107).symm.trans hf
        refine lv_aload_n hx hb dX8_isLock_39 rfl (lv_at hl 0 rfl) ?_
        refine lv_iload_n hx hb dX8_isLock_40 rfl (lv_at hl 1 rfl) ?_
        refine lv_iload_n hx hb dX8_isLock_41 rfl (lv_at hl 2 rfl) ?_
        refine lv_iload hx hb dX8_isLock_42 (lv_at hl 4 rfl) ?_
        refine lv_iadd hx hb dX8_isLock_44 ?_
        obtain ⟨u108, q109, hf⟩ := ob hf
        refine cVi (As := [.int x1, .int (x2 + x4)]) X hw (ctX8_layerOf l E b  q109) ⟨mw_876, mw_878, mw_39, mw_61, mw_879⟩ hd_X8_layerOf ⟨Nat.le_of_ble_eq_true rfl, Nat.le_of_ble_eq_true rfl, rfl, rfl⟩ (kdk kk_197 (by decide)) (ce_X8 E _ _ _ _ kk_197) (show vwCl[8]? = some (RX8, TX8, 31) from rfl) rfl hl.1 rfl (Nat.le_of_ble_eq_true rfl) dX8_isLock_45 (fun H locs hw => ?_)
        refine lv_aload_n hx hb dX8_isLock_48 rfl (lv_at hl 0 rfl) ?_
        refine gt_X8 X hw 9 kk_197 rfl (by decide) mw_730 rfl dX8_isLock_49 ?_
        refine lv_iload hx hb dX8_isLock_52 (lv_at hl 4 rfl) ?_
        obtain ⟨v110, q111, hf⟩ := ob hf
        refine aldM X hw kdv_204 q111 dX8_isLock_54 ?_
        refine lv_icmp_ne (tgt := 62) hx hb dX8_isLock_55 (by decide) (fun c112 => ?_) (fun c112 => ?_)
        · replace hf := (if_neg c112).symm.trans hf
          refine lv_iconst (v := 0) hx hb dX8_isLock_62 (by decide) ?_
          exact tX8_isLock_63 X hr hlk ih x1 x2 x4 0 M hf H locs ls hw (lv_sub hl [0, 1, 2, 4] rfl)
        · replace hf := (if_pos c112).symm.trans hf
          refine lv_iconst (v := 1) hx hb dX8_isLock_58 (by decide) ?_
          refine lv_goto (tgt := 63) hx hb dX8_isLock_59 (by decide) ?_
          exact tX8_isLock_63 X hr hlk ih x1 x2 x4 1 M hf H locs ls hw (lv_sub hl [0, 1, 2, 4] rfl)
set_option maxHeartbeats 4000000 in
set_option maxRecDepth 100000 in
theorem tX8_isLock_22 {p : Program} {l : Launch} {e : Env} {s : State} {m : MethodId} {args : Array Value} {below : List Frame} {meth : Method} {c : Code} {E : EE} {b : Nat} {MC : Mem} {TC : Int64} {TM : Int64} {res : Int32} (X : CX E p s m args c cX8_isLock 5 RX8) (hr : meth.sig.returnType = (some .boolean)) (hlk : meth.locks = false)    : ∀ (x1 : Int32) (x2 : Int32) (y0 : Int32) (M : Mem), gX8_isLock_22 x1 x2 y0 M = some res → ∀ (H : Heap) (locs : List Loc) (ls : Array Slot), WW E b MC TC M TM s H locs → lv_has ls 5 [(0, .ref (b + 197)), (1, .int x1), (2, .int x2)] → W p l e rmX8_isLock s m args below meth c H locs 0 0 (MQ below (va_Qi (fun x (_ : Unit) => x = res) (fun _ t => PW E b MC TC M TM t) (AA b)) args s 0 0 (AA b)) (F0 m 22 ls [.int y0]) := by
  have hx := X.1
  have hb := X.2.1
  intro x1 x2 y0 M hf H locs ls hw hl
  rw [gX8_isLock_22] at hf
  refine lv_istore_n (lv' := [(3, .int y0), (0, .ref (b + 197)), (1, .int x1), (2, .int x2)]) hx hb dX8_isLock_22 rfl hl (by decide) rfl (fun ls hl => ?_)
  refine lv_iconst (v := 0) hx hb dX8_isLock_23 (by decide) ?_
  refine lv_istore (lv' := [(4, .int 0), (3, .int y0), (0, .ref (b + 197)), (1, .int x1), (2, .int x2)]) hx hb dX8_isLock_24 hl (by decide) rfl (fun ls hl => ?_)
  exact tX8_isLock_26 X hr hlk FU x1 x2 y0 0 M hf H locs ls hw (lv_sub hl [2, 3, 4, 1, 0] rfl)
set_option maxHeartbeats 4000000 in
set_option maxRecDepth 100000 in
theorem ctX8_isLock (l : Launch) (E : EE) (b : Nat) {MC : Mem} {TC : Int64} {TM : Int64} {x1 : Int32} {x2 : Int32} {M : Mem} {res : Int32}  (hf : gX8_isLock x1 x2 M = some res) : MetI l E b yX8_isLock (.code yX8_isLock cX8_isLock 5 (some .boolean)) rmX8_isLock [.ref (b + 197), .int x1, .int x2] MC TC M TM res MC TC M TM := by
  refine Met.ofW (cc := cX8_isLock) (maxL := 5) (ret := (some .boolean)) (by decide) rfl ?_
  intro p e s m args below meth c s₁ B hml hv
  obtain ⟨rfl, hP, hK⟩ := hv
  have hx := B.exec
  have hb := B.bytes
  have X : CX E p s m _ c cX8_isLock 5 RX8 := ⟨hx, hb, hml, findClass_of_methodNamed B.named, fun w h => atoms_spec (ws := _ :: wt) B.pre w (List.mem_cons_of_mem _ h), hK⟩
  have hr := B.returns
  have hlk := B.notSynchronized
  have hw : WW E b MC TC M TM s s.heap [] := ⟨hP, va_S.rf⟩
  have hl := lv_entry ([.ref (b + 197), .int x1, .int x2]) (n := 5) (Nat.le_of_ble_eq_true rfl)
  rw [lg_entry_eq]
  generalize (lg_sl ([.ref (b + 197), .int x1, .int x2]) ++ List.replicate (5 - (lg_sl ([.ref (b + 197), .int x1, .int x2])).length) Slot.unset).toArray = ls at hl ⊢
  have hl : lv_has ls 5 [(0, .ref (b + 197)), (1, .int x1), (2, .int x2)] := hl
  obtain ⟨H, hH⟩ : ∃ H, H = s.heap := ⟨_, rfl⟩
  obtain ⟨locs, hL⟩ : ∃ L : List Loc, L = [] := ⟨_, rfl⟩
  rw [← hH, ← hL] at hw
  suffices hg : W p l e rmX8_isLock s m _ below meth c H locs 0 0 (MQ below (va_Qi (fun x (_ : Unit) => x = res) (fun _ t => PW E b MC TC M TM t) (AA b)) _ s 0 0 (AA b)) (F0 m 0 ls []) by rw [hH, hL] at hg; exact hg
  clear hH hL
  rw [gX8_isLock] at hf
  refine lv_iload_n hx hb dX8_isLock_0 rfl (lv_at hl 2 rfl) ?_
  refine lv_aload_n hx hb dX8_isLock_1 rfl (lv_at hl 0 rfl) ?_
  refine gt_X8 X hw 8 kk_197 rfl (by decide) mw_729 rfl dX8_isLock_2 ?_
  refine lv_iadd hx hb dX8_isLock_5 ?_
  refine lv_aload_n hx hb dX8_isLock_6 rfl (lv_at hl 0 rfl) ?_
  refine gt_X8 X hw 5 kk_197 rfl (by decide) mw_726 rfl dX8_isLock_7 ?_
  refine lv_iconst (v := 2) hx hb dX8_isLock_10 (by decide) ?_
  refine lv_iload_n hx hb dX8_isLock_11 rfl (lv_at hl 1 rfl) ?_
  refine lv_iadd hx hb dX8_isLock_12 ?_
  obtain ⟨v101, q102, hf⟩ := ob hf
  refine aldM X hw kdv_201 q102 dX8_isLock_13 ?_
  refine lv_icmp_gt (tgt := 21) hx hb dX8_isLock_14 (by decide) (fun c103 => ?_) (fun c103 => ?_)
  · replace hf := (if_pos c103).symm.trans hf
    refine lv_iconst (v := 0) hx hb dX8_isLock_21 (by decide) ?_
    exact tX8_isLock_22 X hr hlk x1 x2 0 M hf H locs ls hw (lv_sub hl [0, 1, 2] rfl)
  · replace hf := (if_neg c103).symm.trans hf
    refine lv_iconst (v := 1) hx hb dX8_isLock_17 (by decide) ?_
    refine lv_goto (tgt := 22) hx hb dX8_isLock_18 (by decide) ?_
    exact tX8_isLock_22 X hr hlk x1 x2 1 M hf H locs ls hw (lv_sub hl [0, 1, 2] rfl)
