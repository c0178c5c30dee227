abbrev rmX8_lock : Room := { frames := 2, cells := 0, slots := 0, locals := 46 }
theorem hd_X8_lock : Hd yX8_lock RX8 1 := by decide +kernel
def gX8_lock_203   (y0 : Int32) (M : Mem) : Option (Int32 × Mem) := some (y0, M)
def gX8_lock_186  (k136 : Int32 → Int32 → Int32 → Int32 → Int32 → Mem → Option (Int32 × Mem)) (x1 : Int32) (x2 : Int32) (x3 : Int32) (x5 : Int32) (y0 : Int32) (M : Mem) : Option (Int32 × Mem) := (some (x5 + 1)).bind fun z14 => k136 x1 x2 x3 y0 z14 M
def gX8_lock_161  (k136 : Int32 → Int32 → Int32 → Int32 → Int32 → Mem → Option (Int32 × Mem)) (x1 : Int32) (x2 : Int32) (x4 : Int32) (x5 : Int32) (y0 : Int32) (M : Mem) : Option (Int32 × Mem) := (ldA 10 (M 211) x5).bind fun v11 => if v11 ≤ x4 then (gX8_lock_186 k136 x1 x2 y0 x5 x4 M) else ((ldA 10 (M 211) x5).bind fun v15 => gX8_lock_186 k136 x1 x2 y0 x5 v15 M)
def gX8_lock_136   : Nat → Int32 → Int32 → Int32 → Int32 → Int32 → Mem → Option (Int32 × Mem)
  | 0, _, _, _, _, _, _ => none
  | n + 1, x1, x2, x3, x4, x5, M => if 10 ≤ x5 then (if x1 = 0 then (gX8_lock_203 x2 M) else (gX8_lock_203 x3 M)) else ((ldA 10 (M 211) x5).bind fun v8 => if v8 ≤ x4 then (gX8_lock_161 (gX8_lock_136 n) x1 x2 x4 x5 x3 M) else (gX8_lock_161 (gX8_lock_136 n) x1 x2 x4 x5 x5 M))
def gX8_lock_115  (k36 : Int32 → Int32 → Int32 → Mem → Option (Int32 × Mem)) (k47 : Int32 → Int32 → Int32 → Int32 → Mem → Option (Int32 × Mem)) (x1 : Int32) (x2 : Int32) (x3 : Int32) (x4 : Int32) (M : Mem) : Option (Int32 × Mem) := (some (x4 + 1)).bind fun z24 => k47 x1 x2 x3 z24 M
def gX8_lock_47  (k36 : Int32 → Int32 → Int32 → Mem → Option (Int32 × Mem)) : Nat → Int32 → Int32 → Int32 → Int32 → Mem → Option (Int32 × Mem)
  | 0, _, _, _, _, _ => none
  | n + 1, x1, x2, x3, x4, M => (ldA 1233 (M 201) (2 + x3)).bind fun v17 => if v17 < x4 then ((some (x3 + 1)).bind fun z20 => k36 x1 x2 z20 M) else ((gX8_isLock x3 x4 M).bind fun u21 => if u21 = 0 then (gX8_lock_115 k36 (gX8_lock_47 k36 n) x1 x2 x3 x4 M) else ((some (x2 ||| (1 <<< (x3 &&& 31)))).bind fun z25 => (ldA 1233 (M 201) (2 + x3)).bind fun v26 => if v26 ≤ (x4 + (M 197 8)) then (gX8_lock_115 k36 (gX8_lock_47 k36 n) x1 z25 x3 x4 M) else ((gX8_layerOf x3 (x4 + (M 197 8)) M).bind fun u29 => (ldA 10 (M 211) u29).bind fun v31 => (stA 10 M 211 u29 (v31 + 1)).bind fun M33 => gX8_lock_115 k36 (gX8_lock_47 k36 n) x1 z25 x3 x4 M33)))
def gX8_lock_36   : Nat → Int32 → Int32 → Int32 → Mem → Option (Int32 × Mem)
  | 0, _, _, _, _ => none
  | n + 1, x1, x2, x3, M => if (M 197 0) ≤ x3 then (gX8_lock_136 FU x1 x2 ((-9)) 0 0 M) else (gX8_lock_47 (gX8_lock_36 n) FU x1 x2 x3 0 M)
def gX8_lock_13   : Nat → Int32 → Int32 → Mem → Option (Int32 × Mem)
  | 0, _, _, _ => none
  | n + 1, x1, x2, M => if 10 ≤ x2 then (gX8_lock_36 FU x1 0 0 M) else ((stA 10 M 211 x2 0).bind fun M35 => (some (x2 + 1)).bind fun z37 => (gX8_lock_13 n) x1 z37 M35)
def gX8_lock (x1 : Int32) (M : Mem) : Option (Int32 × Mem) := (gX8_in x1 0 1).bind fun u1 => if u1 = 0 then (some ((-1), M)) else (gX8_lock_13 FU x1 0 M)
set_option maxHeartbeats 4000000 in
set_option maxRecDepth 100000 in
theorem tX8_lock_203 {p : Program} {l : Launch} {e : Env} {s : State} {m : MethodId} {args : Array Value} {below : List Frame} {meth : Method} {c : Code} {E : EE} {b : Nat} {MC : Mem} {TC : Int64} {TM : Int64} {res : Int32 × Mem} (X : CX E p s m args c cX8_lock 6 RX8) (hr : meth.sig.returnType = (some .int)) (hlk : meth.locks = false)    : ∀ (y0 : Int32) (M : Mem), gX8_lock_203 y0 M = some res → ∀ (H : Heap) (locs : List Loc) (ls : Array Slot), WW E b MC TC M TM s H locs → lv_has ls 6 [] → W p l e rmX8_lock s m args below meth c H locs 0 0 (MQ below (va_Qi (fun x (_ : Unit) => x = res.1) (fun _ t => PW E b MC TC res.2 TM t) (AA b)) args s 0 0 (AA b)) (F0 m 203 ls [.int y0]) := by
  have hx := X.1
  have hb := X.2.1
  intro y0 M hf H locs ls hw hl
  rw [gX8_lock_203] at hf
  replace hf := Option.some.inj hf
  subst hf
  exact eI X hw hr hlk dX8_lock_203
set_option maxHeartbeats 4000000 in
set_option maxRecDepth 100000 in
theorem tX8_lock_186 {p : Program} {l : Launch} {e : Env} {s : State} {m : MethodId} {args : Array Value} {below : List Frame} {meth : Method} {c : Code} {E : EE} {b : Nat} {MC : Mem} {TC : Int64} {TM : Int64} {res : Int32 × Mem} (X : CX E p s m args c cX8_lock 6 RX8) (hr : meth.sig.returnType = (some .int)) (hlk : meth.locks = false)   {k136 : Int32 → Int32 → Int32 → Int32 → Int32 → Mem → Option (Int32 × Mem)} (hk136 : ∀ (x1 : Int32) (x2 : Int32) (x3 : Int32) (x4 : Int32) (x5 : Int32) (M : Mem), k136 x1 x2 x3 x4 x5 M = some res → ∀ (H : Heap) (locs : List Loc) (ls : Array Slot), WW E b MC TC M TM s H locs → lv_has ls 6 [(0, .ref (b + 197)), (1, .int x1), (2, .int x2), (3, .int x3), (4, .int x4), (5, .int x5)] → W p l e rmX8_lock s m args below meth c H locs 0 0 (MQ below (va_Qi (fun x (_ : Unit) => x = res.1) (fun _ t => PW E b MC TC res.2 TM t) (AA b)) args s 0 0 (AA b)) (F0 m 136 ls [])) : ∀ (x1 : Int32) (x2 : Int32) (x3 : Int32) (x5 : Int32) (y0 : Int32) (M : Mem), gX8_lock_186 k136 x1 x2 x3 x5 y0 M = some res → ∀ (H : Heap) (locs : List Loc) (ls : Array Slot), WW E b MC TC M TM s H locs → lv_has ls 6 [(0, .ref (b + 197)), (1, .int x1), (2, .int x2), (3, .int x3), (5, .int x5)] → W p l e rmX8_lock s m args below meth c H locs 0 0 (MQ below (va_Qi (fun x (_ : Unit) => x = res.1) (fun _ t => PW E b MC TC res.2 TM t) (AA b)) args s 0 0 (AA b)) (F0 m 186 ls [.int y0]) := by
  have hx := X.1
  have hb := X.2.1
  intro x1 x2 x3 x5 y0 M hf H locs ls hw hl
  rw [gX8_lock_186] at hf
  refine lv_istore (lv' := [(4, .int y0), (0, .ref (b + 197)), (1, .int x1), (2, .int x2), (3, .int x3), (5, .int x5)]) hx hb dX8_lock_186 hl (by decide) rfl (fun ls hl => ?_)
  obtain ⟨z14, ez14⟩ : ∃ y : Int32, y = x5 + 1 := ⟨_, rfl⟩
  replace hf := nmb hf ez14
  refine lv_iinc (v := z14) (lv' := [(5, .int z14), (4, .int y0), (0, .ref (b + 197)), (1, .int x1), (2, .int x2), (3, .int x3)]) hx hb dX8_lock_188 hl (k := 5) rfl (by rw [ez14]; rfl) (by decide) rfl (fun ls hl => ?_)
  refine lv_goto (tgt := 136) hx hb dX8_lock_191 (by decide) ?_
  exact hk136 x1 x2 x3 y0 z14 M hf H locs ls hw (lv_sub hl [2, 3, 4, 5, 1, 0] rfl)
set_option maxHeartbeats 4000000 in
set_option maxRecDepth 100000 in
theorem tX8_lock_161 {p : Program} {l : Launch} {e : Env} {s : State} {m : MethodId} {args : Array Value} {below : List Frame} {meth : Method} {c : Code} {E : EE} {b : Nat} {MC : Mem} {TC : Int64} {TM : Int64} {res : Int32 × Mem} (X : CX E p s m args c cX8_lock 6 RX8) (hr : meth.sig.returnType = (some .int)) (hlk : meth.locks = false)   {k136 : Int32 → Int32 → Int32 → Int32 → Int32 → Mem → Option (Int32 × Mem)} (hk136 : ∀ (x1 : Int32) (x2 : Int32) (x3 : Int32) (x4 : Int32) (x5 : Int32) (M : Mem), k136 x1 x2 x3 x4 x5 M = some res → ∀ (H : Heap) (locs : List Loc) (ls : Array Slot), WW E b MC TC M TM s H locs → lv_has ls 6 [(0, .ref (b + 197)), (1, .int x1), (2, .int x2), (3, .int x3), (4, .int x4), (5, .int x5)] → W p l e rmX8_lock s m args below meth c H locs 0 0 (MQ below (va_Qi (fun x (_ : Unit) => x = res.1) (fun _ t => PW E b MC TC res.2 TM t) (AA b)) args s 0 0 (AA b)) (F0 m 136 ls [])) : ∀ (x1 : Int32) (x2 : Int32) (x4 : Int32) (x5 : Int32) (y0 : Int32) (M : Mem), gX8_lock_161 k136 x1 x2 x4 x5 y0 M = some res → ∀ (H : Heap) (locs : List Loc) (ls : Array Slot), WW E b MC TC M TM s H locs → lv_has ls 6 [(0, .ref (b + 197)), (1, .int x1), (2, .int x2), (4, .int x4), (5, .int x5)] → W p l e rmX8_lock s m args below meth c H locs 0 0 (MQ below (va_Qi (fun x (_ : Unit) => x = res.1) (fun _ t => PW E b MC TC res.2 TM t) (AA b)) args s 0 0 (AA b)) (F0 m 161 ls [.int y0]) := by
  have hx := X.1
  have hb := X.2.1
  intro x1 x2 x4 x5 y0 M hf H locs ls hw hl
  rw [gX8_lock_161] at hf
  refine lv_istore_n (lv' := [(3, .int y0), (0, .ref (b + 197)), (1, .int x1), (2, .int x2), (4, .int x4), (5, .int x5)]) hx hb dX8_lock_161 rfl hl (by decide) rfl (fun ls hl => ?_)
  refine lv_aload_n hx hb dX8_lock_162 rfl (lv_at hl 1 rfl) ?_
  refine gt_X8 X hw 30 kk_197 rfl (by decide) mw_751 rfl dX8_lock_163 ?_
  refine lv_iload hx hb dX8_lock_166 (lv_at hl 5 rfl) ?_
  obtain ⟨v11, q12, hf⟩ := ob hf
  refine aldM X hw kdv_211 q12 dX8_lock_168 ?_
  refine lv_iload hx hb dX8_lock_169 (lv_at hl 4 rfl) ?_
  refine lv_icmp_le (tgt := 184) hx hb dX8_lock_171 (by decide) (fun c13 => ?_) (fun c13 => ?_)
  · replace hf := (if_pos c13).symm.trans hf
    refine lv_iload hx hb dX8_lock_184 (lv_at hl 4 rfl) ?_
    exact tX8_lock_186 X hr hlk hk136 x1 x2 y0 x5 x4 M hf H locs ls hw (lv_sub hl [1, 2, 3, 0, 5] rfl)
  · replace hf := (if_neg c13).symm.trans hf
    refine lv_aload_n hx hb dX8_lock_174 rfl (lv_at hl 1 rfl) ?_
    refine gt_X8 X hw 30 kk_197 rfl (by decide) mw_751 rfl dX8_lock_175 ?_
    refine lv_iload hx hb dX8_lock_178 (lv_at hl 5 rfl) ?_
    obtain ⟨v15, q16, hf⟩ := ob hf
    refine aldM X hw kdv_211 q16 dX8_lock_180 ?_
    refine lv_goto (tgt := 186) hx hb dX8_lock_181 (by decide) ?_
    exact tX8_lock_186 X hr hlk hk136 x1 x2 y0 x5 v15 M hf H locs ls hw (lv_sub hl [1, 2, 3, 0, 5] rfl)
set_option maxHeartbeats 4000000 in
set_option maxRecDepth 100000 in
theorem tX8_lock_136 {p : Program} {l : Launch} {e : Env} {s : State} {m : MethodId} {args : Array Value} {below : List Frame} {meth : Method} {c : Code} {E : EE} {b : Nat} {MC : Mem} {TC : Int64} {TM : Int64} {res : Int32 × Mem} (X : CX E p s m args c cX8_lock 6 RX8) (hr : meth.sig.returnType = (some .int)) (hlk : meth.locks = false)    : ∀ (n : Nat) (x1 : Int32) (x2 : Int32) (x3 : Int32) (x4 : Int32) (x5 : Int32) (M : Mem), gX8_lock_136 n x1 x2 x3 x4 x5 M = some res → ∀ (H : Heap) (locs : List Loc) (ls : Array Slot), WW E b MC TC M TM s H locs → lv_has ls 6 [(0, .ref (b + 197)), (1, .int x1), (2, .int x2), (3, .int x3), (4, .int x4), (5, .int x5)] → W p l e rmX8_lock s m args below meth c H locs 0 0 (MQ below (va_Qi (fun x (_ : Unit) => x = res.1) (fun _ t => PW E b MC TC res.2 TM t) (AA b)) args s 0 0 (AA b)) (F0 m 136 ls []) := by
  have hx := X.1
  have hb := X.2.1
  intro n
  induction n with
  | zero =>
    intro x1 x2 x3 x4 x5 M hf
    cases (show (none : Option (Int32 × Mem)) = some res from hf)
  | succ n ih =>
    intro x1 x2 x3 x4 x5 M hf H locs ls hw hl
    rw [gX8_lock_136] at hf
    refine lv_iload hx hb dX8_lock_136 (lv_at hl 5 rfl) ?_
    refine lv_bipush (v := 10) hx hb dX8_lock_138 (by decide) ?_
    refine lv_icmp_ge (tgt := 194) hx hb dX8_lock_140 (by decide) (fun c6 => ?_) (fun c6 => ?_)
    · replace hf := (if_pos c6).symm.trans hf
      refine lv_iload_n hx hb dX8_lock_194 rfl (lv_at hl 1 rfl) ?_
      refine lv_if_ne (tgt := 202) hx hb dX8_lock_195 (by decide) (fun c7 => ?_) (fun c7 => ?_)
      · replace hf := (if_neg c7).symm.trans hf
        refine lv_iload_n hx hb dX8_lock_202 rfl (lv_at hl 3 rfl) ?_
        exact tX8_lock_203 X hr hlk x3 M hf H locs ls hw (lv_sub hl [] rfl)
      · replace hf := (if_pos c7).symm.trans hf
        refine lv_iload_n hx hb dX8_lock_198 rfl (lv_at hl 2 rfl) ?_
        refine lv_goto (tgt := 203) hx hb dX8_lock_199 (by decide) ?_
        exact tX8_lock_203 X hr hlk x2 M hf H locs ls hw (lv_sub hl [] rfl)
    · replace hf := (if_neg c6).symm.trans hf
      refine lv_aload_n hx hb dX8_lock_143 rfl (lv_at hl 0 rfl) ?_
      refine gt_X8 X hw 30 kk_197 rfl (by decide) mw_751 rfl dX8_lock_144 ?_
      refine lv_iload hx hb dX8_lock_147 (lv_at hl 5 rfl) ?_
      obtain ⟨v8, q9, hf⟩ := ob hf
      refine aldM X hw kdv_211 q9 dX8_lock_149 ?_
      refine lv_iload hx hb dX8_lock_150 (lv_at hl 4 rfl) ?_
      refine lv_icmp_le (tgt := 160) hx hb dX8_lock_152 (by decide) (fun c10 => ?_) (fun c10 => ?_)
      · replace hf := (if_pos c10).symm.trans hf
        refine lv_iload_n hx hb dX8_lock_160 rfl (lv_at hl 3 rfl) ?_
        exact tX8_lock_161 X hr hlk ih x1 x2 x4 x5 x3 M hf H locs ls hw (lv_sub hl [0, 1, 2, 4, 5] rfl)
      · replace hf := (if_neg c10).symm.trans hf
        refine lv_iload hx hb dX8_lock_155 (lv_at hl 5 rfl) ?_
        refine lv_goto (tgt := 161) hx hb dX8_lock_157 (by decide) ?_
        exact tX8_lock_161 X hr hlk ih x1 x2 x4 x5 x5 M hf H locs ls hw (lv_sub hl [0, 1, 2, 4, 5] rfl)
set_option maxHeartbeats 4000000 in
set_option maxRecDepth 100000 in
theorem tX8_lock_115 {p : Program} {l : Launch} {e : Env} {s : State} {m : MethodId} {args : Array Value} {below : List Frame} {meth : Method} {c : Code} {E : EE} {b : Nat} {MC : Mem} {TC : Int64} {TM : Int64} {res : Int32 × Mem} (X : CX E p s m args c cX8_lock 6 RX8) (hr : meth.sig.returnType = (some .int)) (hlk : meth.locks = false)   {k36 : Int32 → Int32 → Int32 → Mem → Option (Int32 × Mem)} (hk36 : ∀ (x1 : Int32) (x2 : Int32) (x3 : Int32) (M : Mem), k36 x1 x2 x3 M = some res → ∀ (H : Heap) (locs : List Loc) (ls : Array Slot), WW E b MC TC M TM s H locs → lv_has ls 6 [(0, .ref (b + 197)), (1, .int x1), (2, .int x2), (3, .int x3)] → W p l e rmX8_lock s m args below meth c H locs 0 0 (MQ below (va_Qi (fun x (_ : Unit) => x = res.1) (fun _ t => PW E b MC TC res.2 TM t) (AA b)) args s 0 0 (AA b)) (F0 m 36 ls [])) {k47 : Int32 → Int32 → Int32 → Int32 → Mem → Option (Int32 × Mem)} (hk47 : ∀ (x1 : Int32) (x2 : Int32) (x3 : Int32) (x4 : Int32) (M : Mem), k47 x1 x2 x3 x4 M = some res → ∀ (H : Heap) (locs : List Loc) (ls : Array Slot), WW E b MC TC M TM s H locs → lv_has ls 6 [(0, .ref (b + 197)), (1, .int x1), (2, .int x2), (3, .int x3), (4, .int x4)] → W p l e rmX8_lock s m args below meth c H locs 0 0 (MQ below (va_Qi (fun x (_ : Unit) => x = res.1) (fun _ t => PW E b MC TC res.2 TM t) (AA b)) args s 0 0 (AA b)) (F0 m 47 ls [])) : ∀ (x1 : Int32) (x2 : Int32) (x3 : Int32) (x4 : Int32) (M : Mem), gX8_lock_115 k36 k47 x1 x2 x3 x4 M = some res → ∀ (H : Heap) (locs : List Loc) (ls : Array Slot), WW E b MC TC M TM s H locs → lv_has ls 6 [(0, .ref (b + 197)), (1, .int x1), (2, .int x2), (3, .int x3), (4, .int x4)] → W p l e rmX8_lock s m args below meth c H locs 0 0 (MQ below (va_Qi (fun x (_ : Unit) => x = res.1) (fun _ t => PW E b MC TC res.2 TM t) (AA b)) args s 0 0 (AA b)) (F0 m 115 ls []) := by
  have hx := X.1
  have hb := X.2.1
  intro x1 x2 x3 x4 M hf H locs ls hw hl
  rw [gX8_lock_115] at hf
  obtain ⟨z24, ez24⟩ : ∃ y : Int32, y = x4 + 1 := ⟨_, rfl⟩
  replace hf := nmb hf ez24
  refine lv_iinc (v := z24) (lv' := [(4, .int z24), (0, .ref (b + 197)), (1, .int x1), (2, .int x2), (3, .int x3)]) hx hb dX8_lock_115 hl (k := 4) rfl (by rw [ez24]; rfl) (by decide) rfl (fun ls hl => ?_)
  refine lv_goto (tgt := 47) hx hb dX8_lock_118 (by decide) ?_
  exact hk47 x1 x2 x3 z24 M hf H locs ls hw (lv_sub hl [1, 2, 3, 4, 0] rfl)
set_option maxHeartbeats 4000000 in
set_option maxRecDepth 100000 in
theorem tX8_lock_47 {p : Program} {l : Launch} {e : Env} {s : State} {m : MethodId} {args : Array Value} {below : List Frame} {meth : Method} {c : Code} {E : EE} {b : Nat} {MC : Mem} {TC : Int64} {TM : Int64} {res : Int32 × Mem} (X : CX E p s m args c cX8_lock 6 RX8) (hr : meth.sig.returnType = (some .int)) (hlk : meth.locks = false)   {k36 : Int32 → Int32 → Int32 → Mem → Option (Int32 × Mem)} (hk36 : ∀ (x1 : Int32) (x2 : Int32) (x3 : Int32) (M : Mem), k36 x1 x2 x3 M = some res → ∀ (H : Heap) (locs : List Loc) (ls : Array Slot), WW E b MC TC M TM s H locs → lv_has ls 6 [(0, .ref (b + 197)), (1, .int x1), (2, .int x2), (3, .int x3)] → W p l e rmX8_lock s m args below meth c H locs 0 0 (MQ below (va_Qi (fun x (_ : Unit) => x = res.1) (fun _ t => PW E b MC TC res.2 TM t) (AA b)) args s 0 0 (AA b)) (F0 m 36 ls [])) : ∀ (n : Nat) (x1 : Int32) (x2 : Int32) (x3 : Int32) (x4 : Int32) (M : Mem), gX8_lock_47 k36 n x1 x2 x3 x4 M = some res → ∀ (H : Heap) (locs : List Loc) (ls : Array Slot), WW E b MC TC M TM s H locs → lv_has ls 6 [(0, .ref (b + 197)), (1, .int x1), (2, .int x2), (3, .int x3), (4, .int x4)] → W p l e rmX8_lock s m args below meth c H locs 0 0 (MQ below (va_Qi (fun x (_ : Unit) => x = res.1) (fun _ t => PW E b MC TC res.2 TM t) (AA b)) args s 0 0 (AA b)) (F0 m 47 ls []) := by
  have hx := X.1
  have hb := X.2.1
  intro n
  induction n with
  | zero =>
    intro x1 x2 x3 x4 M hf
    cases (show (none : Option (Int32 × Mem)) = some res from hf)
  | succ n ih =>
    intro x1 x2 x3 x4 M hf H locs ls hw hl
    rw [gX8_lock_47] at hf
    refine lv_iload hx hb dX8_lock_47 (lv_at hl 4 rfl) ?_
    refine lv_aload_n hx hb dX8_lock_49 rfl (lv_at hl 0 rfl) ?_
    refine gt_X8 X hw 5 kk_197 rfl (by decide) mw_726 rfl dX8_lock_50 ?_
    refine lv_iconst (v := 2) hx hb dX8_lock_53 (by decide) ?_
    refine lv_iload_n hx hb dX8_lock_54 rfl (lv_at hl 3 rfl) ?_
    refine lv_iadd hx hb dX8_lock_55 ?_
    obtain ⟨v17, q18, hf⟩ := ob hf
    refine aldM X hw kdv_201 q18 dX8_lock_56 ?_
    refine lv_icmp_gt (tgt := 121) hx hb dX8_lock_57 (by decide) (fun c19 => ?_) (fun c19 => ?_)
    · replace hf := (if_pos c19).symm.trans hf
      obtain ⟨z20, ez20⟩ : ∃ y : Int32, y = x3 + 1 := ⟨_, rfl⟩
      replace hf := nmb hf ez20
      refine lv_iinc (v := z20) (lv' := [(3, .int z20), (0, .ref (b + 197)), (1, .int x1), (2, .int x2), (4, .int x4)]) hx hb dX8_lock_121 hl (k := 3) rfl (by rw [ez20]; rfl) (by decide) rfl (fun ls hl => ?_)
      refine lv_goto (tgt := 36) hx hb dX8_lock_124 (by decide) ?_
      exact hk36 x1 x2 z20 M hf H locs ls hw (lv_sub hl [1, 2, 3, 0] rfl)
    · replace hf := (if_neg c19).symm.trans hf
      refine lv_aload_n hx hb dX8_lock_60 rfl (lv_at hl 0 rfl) ?_
      refine lv_iload_n hx hb dX8_lock_61 rfl (lv_at hl 3 rfl) ?_
      refine lv_iload hx hb dX8_lock_62 (lv_at hl 4 rfl) ?_
      obtain ⟨u21, q22, hf⟩ := ob hf
      refine cVi (As := [.int x3, .int x4]) X hw (ctX8_isLock l E b  q22) ⟨mw_999, mw_1001, mw_49, mw_61, mw_1002⟩ hd_X8_isLock ⟨Nat.le_of_ble_eq_true rfl, Nat.le_of_ble_eq_true rfl, rfl, rfl⟩ (kdk kk_197 (by decide)) (ce_X8 E _ _ _ _ kk_197) (show vwCl[8]? = some (RX8, TX8, 31) from rfl) rfl hl.1 rfl (Nat.le_of_ble_eq_true rfl) dX8_lock_64 (fun H locs hw => ?_)
      refine lv_if_eq (tgt := 115) hx hb dX8_lock_67 (by decide) (fun c23 => ?_) (fun c23 => ?_)
      · replace hf := (if_pos c23).symm.trans hf
        exact tX8_lock_115 X hr hlk hk36 ih x1 x2 x3 x4 M hf H locs ls hw (lv_sub hl [0, 1, 2, 3, 4] rfl)
      · replace hf := (if_neg c23).symm.trans hf
        refine lv_iload_n hx hb dX8_lock_70 rfl (lv_at hl 2 rfl) ?_
        refine lv_iconst (v := 1) hx hb dX8_lock_71 (by decide) ?_
        refine lv_iload_n hx hb dX8_lock_72 rfl (lv_at hl 3 rfl) ?_
        refine lv_ishl hx hb dX8_lock_73 ?_
        refine lv_ior hx hb dX8_lock_74 ?_
        refine lv_topi (fun z25 ez25 => ?_)
        replace hf := nmb hf ez25
        refine lv_istore_n (lv' := [(2, .int z25), (0, .ref (b + 197)), (1, .int x1), (3, .int x3), (4, .int x4)]) hx hb dX8_lock_75 rfl hl (by decide) rfl (fun ls hl => ?_)
        refine lv_iload hx hb dX8_lock_76 (lv_at hl 4 rfl) ?_
        refine lv_aload_n hx hb dX8_lock_78 rfl (lv_at hl 1 rfl) ?_
        refine gt_X8 X hw 8 kk_197 rfl (by decide) mw_729 rfl dX8_lock_79 ?_
        refine lv_iadd hx hb dX8_lock_82 ?_
        refine lv_aload_n hx hb dX8_lock_83 rfl (lv_at hl 1 rfl) ?_
        refine gt_X8 X hw 5 kk_197 rfl (by decide) mw_726 rfl dX8_lock_84 ?_
        refine lv_iconst (v := 2) hx hb dX8_lock_87 (by decide) ?_
        refine lv_iload_n hx hb dX8_lock_88 rfl (lv_at hl 3 rfl) ?_
        refine lv_iadd hx hb dX8_lock_89 ?_
        obtain ⟨v26, q27, hf⟩ := ob hf
        refine aldM X hw kdv_201 q27 dX8_lock_90 ?_
        refine lv_icmp_ge (tgt := 115) hx hb dX8_lock_91 (by decide) (fun c28 => ?_) (fun c28 => ?_)
        · replace hf := (if_pos c28).symm.trans hf
          exact tX8_lock_115 X hr hlk hk36 ih x1 z25 x3 x4 M hf H locs ls hw (lv_sub hl [1, 2, 0, 3, 4] rfl)
        · replace hf := (if_neg c28).symm.trans hf
          refine lv_aload_n hx hb dX8_lock_94 rfl (lv_at hl 1 rfl) ?_
          refine gt_X8 X hw 30 kk_197 rfl (by decide) mw_751 rfl dX8_lock_95 ?_
          refine lv_aload_n hx hb dX8_lock_98 rfl (lv_at hl 1 rfl) ?_
          refine lv_iload_n hx hb dX8_lock_99 rfl (lv_at hl 3 rfl) ?_
          refine lv_iload hx hb dX8_lock_100 (lv_at hl 4 rfl) ?_
          refine lv_aload_n hx hb dX8_lock_102 rfl (lv_at hl 1 rfl) ?_
          refine gt_X8 X hw 8 kk_197 rfl (by decide) mw_729 rfl dX8_lock_103 ?_
          refine lv_iadd hx hb dX8_lock_106 ?_
          obtain ⟨u29, q30, hf⟩ := ob hf
          refine cVi (As := [.int x3, .int (x4 + (M 197 8))]) X hw (ctX8_layerOf l E b  q30) ⟨mw_876, mw_878, mw_39, mw_61, mw_879⟩ hd_X8_layerOf ⟨Nat.le_of_ble_eq_true rfl, Nat.le_of_ble_eq_true rfl, rfl, rfl⟩ (kdk kk_197 (by decide)) (ce_X8 E _ _ _ _ kk_197) (show vwCl[8]? = some (RX8, TX8, 31) from rfl) rfl hl.1 rfl (Nat.le_of_ble_eq_true rfl) dX8_lock_107 (fun H locs hw => ?_)
          refine lv_dup2_11 hx hb dX8_lock_110 rfl rfl ?_
          obtain ⟨v31, q32, hf⟩ := ob hf
          refine aldM X hw kdv_211 q32 dX8_lock_111 ?_
          refine lv_iconst (v := 1) hx hb dX8_lock_112 (by decide) ?_
          refine lv_iadd hx hb dX8_lock_113 ?_
          obtain ⟨M33, q34, hf⟩ := ob hf
          refine astM X hw kdv_211 q34 dX8_lock_114 (fun H locs hw => ?_)
          exact tX8_lock_115 X hr hlk hk36 ih x1 z25 x3 x4 M33 hf H locs ls hw (lv_sub hl [1, 2, 0, 3, 4] rfl)
set_option maxHeartbeats 4000000 in
set_option maxRecDepth 100000 in
theorem tX8_lock_36 {p : Program} {l : Launch} {e : Env} {s : State} {m : MethodId} {args : Array Value} {below : List Frame} {meth : Method} {c : Code} {E : EE} {b : Nat} {MC : Mem} {TC : Int64} {TM : Int64} {res : Int32 × Mem} (X : CX E p s m args c cX8_lock 6 RX8) (hr : meth.sig.returnType = (some .int)) (hlk : meth.locks = false)    : ∀ (n : Nat) (x1 : Int32) (x2 : Int32) (x3 : Int32) (M : Mem), gX8_lock_36 n x1 x2 x3 M = some res → ∀ (H : Heap) (locs : List Loc) (ls : Array Slot), WW E b MC TC M TM s H locs → lv_has ls 6 [(0, .ref (b + 197)), (1, .int x1), (2, .int x2), (3, .int x3)] → W p l e rmX8_lock s m args below meth c H locs 0 0 (MQ below (va_Qi (fun x (_ : Unit) => x = res.1) (fun _ t => PW E b MC TC res.2 TM t) (AA b)) args s 0 0 (AA b)) (F0 m 36 ls []) := by
  have hx := X.1
  have hb := X.2.1
  intro n
  induction n with
  | zero =>
    intro x1 x2 x3 M hf
    cases (show (none : Option (Int32 × Mem)) = some res from hf)
  | succ n ih =>
    intro x1 x2 x3 M hf H locs ls hw hl
    rw [gX8_lock_36] at hf
    refine lv_iload_n hx hb dX8_lock_36 rfl (lv_at hl 3 rfl) ?_
    refine lv_aload_n hx hb dX8_lock_37 rfl (lv_at hl 0 rfl) ?_
    refine gt_X8 X hw 0 kk_197 rfl (by decide) mw_721 rfl dX8_lock_38 ?_
    refine lv_icmp_ge (tgt := 127) hx hb dX8_lock_41 (by decide) (fun c5 => ?_) (fun c5 => ?_)
    · replace hf := (if_pos c5).symm.trans hf
      refine lv_bipush (v := (-9)) hx hb dX8_lock_127 (by decide) ?_
      refine lv_istore_n (lv' := [(3, .int ((-9))), (0, .ref (b + 197)), (1, .int x1), (2, .int x2)]) hx hb dX8_lock_129 rfl hl (by decide) rfl (fun ls hl => ?_)
      refine lv_iconst (v := 0) hx hb dX8_lock_130 (by decide) ?_
      refine lv_istore (lv' := [(4, .int 0), (3, .int ((-9))), (0, .ref (b + 197)), (1, .int x1), (2, .int x2)]) hx hb dX8_lock_131 hl (by decide) rfl (fun ls hl => ?_)
      refine lv_iconst (v := 0) hx hb dX8_lock_133 (by decide) ?_
      refine lv_istore (lv' := [(5, .int 0), (4, .int 0), (3, .int ((-9))), (0, .ref (b + 197)), (1, .int x1), (2, .int x2)]) hx hb dX8_lock_134 hl (by decide) rfl (fun ls hl => ?_)
      exact tX8_lock_136 X hr hlk FU x1 x2 ((-9)) 0 0 M hf H locs ls hw (lv_sub hl [3, 4, 5, 2, 1, 0] rfl)
    · replace hf := (if_neg c5).symm.trans hf
      refine lv_iconst (v := 0) hx hb dX8_lock_44 (by decide) ?_
      refine lv_istore (lv' := [(4, .int 0), (0, .ref (b + 197)), (1, .int x1), (2, .int x2), (3, .int x3)]) hx hb dX8_lock_45 hl (by decide) rfl (fun ls hl => ?_)
      exact tX8_lock_47 X hr hlk ih FU x1 x2 x3 0 M hf H locs ls hw (lv_sub hl [1, 2, 3, 4, 0] rfl)
set_option maxHeartbeats 4000000 in
set_option maxRecDepth 100000 in
theorem tX8_lock_13 {p : Program} {l : Launch} {e : Env} {s : State} {m : MethodId} {args : Array Value} {below : List Frame} {meth : Method} {c : Code} {E : EE} {b : Nat} {MC : Mem} {TC : Int64} {TM : Int64} {res : Int32 × Mem} (X : CX E p s m args c cX8_lock 6 RX8) (hr : meth.sig.returnType = (some .int)) (hlk : meth.locks = false)    : ∀ (n : Nat) (x1 : Int32) (x2 : Int32) (M : Mem), gX8_lock_13 n x1 x2 M = some res → ∀ (H : Heap) (locs : List Loc) (ls : Array Slot), WW E b MC TC M TM s H locs → lv_has ls 6 [(0, .ref (b + 197)), (1, .int x1), (2, .int x2)] → W p l e rmX8_lock s m args below meth c H locs 0 0 (MQ below (va_Qi (fun x (_ : Unit) => x = res.1) (fun _ t => PW E b MC TC res.2 TM t) (AA b)) args s 0 0 (AA b)) (F0 m 13 ls []) := by
  have hx := X.1
  have hb := X.2.1
  intro n
  induction n with
  | zero =>
    intro x1 x2 M hf
    cases (show (none : Option (Int32 × Mem)) = some res from hf)
  | succ n ih =>
    intro x1 x2 M hf H locs ls hw hl
    rw [gX8_lock_13] at hf
    refine lv_iload_n hx hb dX8_lock_13 rfl (lv_at hl 2 rfl) ?_
    refine lv_bipush (v := 10) hx hb dX8_lock_14 (by decide) ?_
    refine lv_icmp_ge (tgt := 32) hx hb dX8_lock_16 (by decide) (fun c4 => ?_) (fun c4 => ?_)
    · replace hf := (if_pos c4).symm.trans hf
      refine lv_iconst (v := 0) hx hb dX8_lock_32 (by decide) ?_
      refine lv_istore_n (lv' := [(2, .int 0), (0, .ref (b + 197)), (1, .int x1)]) hx hb dX8_lock_33 rfl hl (by decide) rfl (fun ls hl => ?_)
      refine lv_iconst (v := 0) hx hb dX8_lock_34 (by decide) ?_
      refine lv_istore_n (lv' := [(3, .int 0), (2, .int 0), (0, .ref (b + 197)), (1, .int x1)]) hx hb dX8_lock_35 rfl hl (by decide) rfl (fun ls hl => ?_)
      exact tX8_lock_36 X hr hlk FU x1 0 0 M hf H locs ls hw (lv_sub hl [2, 3, 1, 0] rfl)
    · replace hf := (if_neg c4).symm.trans hf
      refine lv_aload_n hx hb dX8_lock_19 rfl (lv_at hl 0 rfl) ?_
      refine gt_X8 X hw 30 kk_197 rfl (by decide) mw_751 rfl dX8_lock_20 ?_
      refine lv_iload_n hx hb dX8_lock_23 rfl (lv_at hl 2 rfl) ?_
      refine lv_iconst (v := 0) hx hb dX8_lock_24 (by decide) ?_
      obtain ⟨M35, q36, hf⟩ := ob hf
      refine astM X hw kdv_211 q36 dX8_lock_25 (fun H locs hw => ?_)
      obtain ⟨z37, ez37⟩ : ∃ y : Int32, y = x2 + 1 := ⟨_, rfl⟩
      replace hf := nmb hf ez37
      refine lv_iinc (v := z37) (lv' := [(2, .int z37), (0, .ref (b + 197)), (1, .int x1)]) hx hb dX8_lock_26 hl (k := 2) rfl (by rw [ez37]; rfl) (by decide) rfl (fun ls hl => ?_)
      refine lv_goto (tgt := 13) hx hb dX8_lock_29 (by decide) ?_
      exact ih x1 z37 M35 hf H locs ls hw (lv_sub hl [1, 2, 0] rfl)
set_option maxHeartbeats 4000000 in
set_option maxRecDepth 100000 in
theorem ctX8_lock (l : Launch) (E : EE) (b : Nat) {MC : Mem} {TC : Int64} {TM : Int64} {x1 : Int32} {M : Mem} {res : Int32 × Mem}  (hf : gX8_lock x1 M = some res) : MetI l E b yX8_lock (.code yX8_lock cX8_lock 6 (some .int)) rmX8_lock [.ref (b + 197), .int x1] MC TC M TM res.1 MC TC res.2 TM := by
  refine Met.ofW (cc := cX8_lock) (maxL := 6) (ret := (some .int)) (by decide) rfl ?_
  intro p e s m args below meth c s₁ B hml hv
  obtain ⟨rfl, hP, hK⟩ := hv
  have hx := B.exec
  have hb := B.bytes
  have X : CX E p s m _ c cX8_lock 6 RX8 := ⟨hx, hb, hml, findClass_of_methodNamed B.named, fun w h => atoms_spec (ws := _ :: wt) B.pre w (List.mem_cons_of_mem _ h), hK⟩
  have hr := B.returns
  have hlk := B.notSynchronized
  have hw : WW E b MC TC M TM s s.heap [] := ⟨hP, va_S.rf⟩
  have hl := lv_entry ([.ref (b + 197), .int x1]) (n := 6) (Nat.le_of_ble_eq_true rfl)
  rw [lg_entry_eq]
  generalize (lg_sl ([.ref (b + 197), .int x1]) ++ List.replicate (6 - (lg_sl ([.ref (b + 197), .int x1])).length) Slot.unset).toArray = ls at hl ⊢
  have hl : lv_has ls 6 [(0, .ref (b + 197)), (1, .int x1)] := hl
  obtain ⟨H, hH⟩ : ∃ H, H = s.heap := ⟨_, rfl⟩
  obtain ⟨locs, hL⟩ : ∃ L : List Loc, L = [] := ⟨_, rfl⟩
  rw [← hH, ← hL] at hw
  suffices hg : W p l e rmX8_lock s m _ below meth c H locs 0 0 (MQ below (va_Qi (fun x (_ : Unit) => x = res.1) (fun _ t => PW E b MC TC res.2 TM t) (AA b)) _ s 0 0 (AA b)) (F0 m 0 ls []) by rw [hH, hL] at hg; exact hg
  clear hH hL
  rw [gX8_lock] at hf
  refine lv_iload_n hx hb dX8_lock_0 rfl (lv_at hl 1 rfl) ?_
  refine lv_iconst (v := 0) hx hb dX8_lock_1 (by decide) ?_
  refine lv_iconst (v := 1) hx hb dX8_lock_2 (by decide) ?_
  obtain ⟨u1, q2, hf⟩ := ob hf
  refine cSi (As := [.int x1, .int 0, .int 1]) X hw (ctX8_in l E b  q2) ⟨mw_819, mw_820, mw_61, mw_821⟩ hd_X8_in ⟨Nat.le_of_ble_eq_true rfl, Nat.le_of_ble_eq_true rfl, rfl, rfl⟩ rfl hl.1 rfl (Nat.le_of_ble_eq_true rfl) dX8_lock_3 (fun H locs hw => ?_)
  refine lv_if_ne (tgt := 11) hx hb dX8_lock_6 (by decide) (fun c3 => ?_) (fun c3 => ?_)
  · replace hf := (if_neg c3).symm.trans hf
    refine lv_iconst (v := 0) hx hb dX8_lock_11 (by decide) ?_
    refine lv_istore_n (lv' := [(2, .int 0), (0, .ref (b + 197)), (1, .int x1)]) hx hb dX8_lock_12 rfl hl (by decide) rfl (fun ls hl => ?_)
    exact tX8_lock_13 X hr hlk FU x1 0 M hf H locs ls hw (lv_sub hl [1, 2, 0] rfl)
  · replace hf := (if_pos c3).symm.trans hf
    refine lv_iconst (v := (-1)) hx hb dX8_lock_9 (by decide) ?_
    replace hf := Option.some.inj hf
    subst hf
    exact eI X hw hr hlk dX8_lock_10

abbrev rmX8_hears : Room := { frames := 2, cells := 0, slots := 0, locals := 42 }
theorem hd_X8_hears : Hd yX8_hears RX8 2 := by decide +kernel
def gX8_hears (x1 : Int32) (x2 : Int32) (M : Mem) : Option (Int32 × Mem) := (gX8_isThought x1).bind fun u38 => if u38 = 0 then (some ((-1), M)) else ((gX8_in x2 0 60).bind fun u41 => if u41 = 0 then (some ((-1), M)) else (if (M 197 10) = 4 then (some ((-3), M)) else ((stA 8 M 205 (2 * (M 197 10)) x1).bind fun M45 => (stA 8 M45 205 ((2 * (M45 197 10)) + 1) x2).bind fun M47 => (some (us M47 197 10 ((M47 197 10) + 1))).bind fun M49 => some (M49 197 10, M49))))
set_option maxHeartbeats 4000000 in
set_option maxRecDepth 100000 in
theorem ctX8_hears (l : Launch) (E : EE) (b : Nat) {MC : Mem} {TC : Int64} {TM : Int64} {x1 : Int32} {x2 : Int32} {M : Mem} {res : Int32 × Mem}  (hf : gX8_hears x1 x2 M = some res) : MetI l E b yX8_hears (.code yX8_hears cX8_hears 3 (some .int)) rmX8_hears [.ref (b + 197), .int x1, .int x2] MC TC M TM res.1 MC TC res.2 TM := by
  refine Met.ofW (cc := cX8_hears) (maxL := 3) (ret := (some .int)) (by decide) rfl ?_
  intro p e s m args below meth c s₁ B hml hv
  obtain ⟨rfl, hP, hK⟩ := hv
  have hx := B.exec
  have hb := B.bytes
  have X : CX E p s m _ c cX8_hears 3 RX8 := ⟨hx, hb, hml, findClass_of_methodNamed B.named, fun w h => atoms_spec (ws := _ :: wt) B.pre w (List.mem_cons_of_mem _ h), hK⟩
  have hr := B.returns
  have hlk := B.notSynchronized
  have hw : WW E b MC TC M TM s s.heap [] := ⟨hP, va_S.rf⟩
  have hl := lv_entry ([.ref (b + 197), .int x1, .int x2]) (n := 3) (Nat.le_of_ble_eq_true rfl)
  rw [lg_entry_eq]
  generalize (lg_sl ([.ref (b + 197), .int x1, .int x2]) ++ List.replicate (3 - (lg_sl ([.ref (b + 197), .int x1, .int x2])).length) Slot.unset).toArray = ls at hl ⊢
  have hl : lv_has ls 3 [(0, .ref (b + 197)), (1, .int x1), (2, .int x2)] := hl
  obtain ⟨H, hH⟩ : ∃ H, H = s.heap := ⟨_, rfl⟩
  obtain ⟨locs, hL⟩ : ∃ L : List Loc, L = [] := ⟨_, rfl⟩
  rw [← hH, ← hL] at hw
  suffices hg : W p l e rmX8_hears s m _ below meth c H locs 0 0 (MQ below (va_Qi (fun x (_ : Unit) => x = res.1) (fun _ t => PW E b MC TC res.2 TM t) (AA b)) _ s 0 0 (AA b)) (F0 m 0 ls []) by rw [hH, hL] at hg; exact hg
  clear hH hL
  rw [gX8_hears] at hf
  refine lv_iload_n hx hb dX8_hears_0 rfl (lv_at hl 1 rfl) ?_
  obtain ⟨u38, q39, hf⟩ := ob hf
  refine cSi (As := [.int x1]) X hw (ctX8_isThought l E b  q39) ⟨mw_895, mw_896, mw_61, mw_897⟩ hd_X8_isThought ⟨Nat.le_of_ble_eq_true rfl, Nat.le_of_ble_eq_true rfl, rfl, rfl⟩ rfl hl.1 rfl (Nat.le_of_ble_eq_true rfl) dX8_hears_1 (fun H locs hw => ?_)
  refine lv_if_eq (tgt := 17) hx hb dX8_hears_4 (by decide) (fun c40 => ?_) (fun c40 => ?_)
  · replace hf := (if_pos c40).symm.trans hf
    refine lv_iconst (v := (-1)) hx hb dX8_hears_17 (by decide) ?_
    replace hf := Option.some.inj hf
    subst hf
    exact eI X hw hr hlk dX8_hears_18
  · replace hf := (if_neg c40).symm.trans hf
    refine lv_iload_n hx hb dX8_hears_7 rfl (lv_at hl 2 rfl) ?_
    refine lv_iconst (v := 0) hx hb dX8_hears_8 (by decide) ?_
    refine lv_bipush (v := 60) hx hb dX8_hears_9 (by decide) ?_
    obtain ⟨u41, q42, hf⟩ := ob hf
    refine cSi (As := [.int x2, .int 0, .int 60]) X hw (ctX8_in l E b  q42) ⟨mw_819, mw_820, mw_61, mw_821⟩ hd_X8_in ⟨Nat.le_of_ble_eq_true rfl, Nat.le_of_ble_eq_true rfl, rfl, rfl⟩ rfl hl.1 rfl (Nat.le_of_ble_eq_true rfl) dX8_hears_11 (fun H locs hw => ?_)
    refine lv_if_ne (tgt := 19) hx hb dX8_hears_14 (by decide) (fun c43 => ?_) (fun c43 => ?_)
    · replace hf := (if_neg c43).symm.trans hf
      refine lv_aload_n hx hb dX8_hears_19 rfl (lv_at hl 0 rfl) ?_
      refine gt_X8 X hw 10 kk_197 rfl (by decide) mw_731 rfl dX8_hears_20 ?_
      refine lv_iconst (v := 4) hx hb dX8_hears_23 (by decide) ?_
      refine lv_icmp_ne (tgt := 30) hx hb dX8_hears_24 (by decide) (fun c44 => ?_) (fun c44 => ?_)
      · replace hf := (if_neg c44).symm.trans hf
        refine lv_aload_n hx hb dX8_hears_30 rfl (lv_at hl 0 rfl) ?_
        refine gt_X8 X hw 11 kk_197 rfl (by decide) mw_732 rfl dX8_hears_31 ?_
        refine lv_iconst (v := 2) hx hb dX8_hears_34 (by decide) ?_
        refine lv_aload_n hx hb dX8_hears_35 rfl (lv_at hl 0 rfl) ?_
        refine gt_X8 X hw 10 kk_197 rfl (by decide) mw_731 rfl dX8_hears_36 ?_
        refine lv_imul hx hb dX8_hears_39 ?_
        refine lv_iload_n hx hb dX8_hears_40 rfl (lv_at hl 1 rfl) ?_
        obtain ⟨M45, q46, hf⟩ := ob hf
        refine astM X hw kdv_205 q46 dX8_hears_41 (fun H locs hw => ?_)
        refine lv_aload_n hx hb dX8_hears_42 rfl (lv_at hl 0 rfl) ?_
        refine gt_X8 X hw 11 kk_197 rfl (by decide) mw_732 rfl dX8_hears_43 ?_
        refine lv_iconst (v := 2) hx hb dX8_hears_46 (by decide) ?_
        refine lv_aload_n hx hb dX8_hears_47 rfl (lv_at hl 0 rfl) ?_
        refine gt_X8 X hw 10 kk_197 rfl (by decide) mw_731 rfl dX8_hears_48 ?_
        refine lv_imul hx hb dX8_hears_51 ?_
        refine lv_iconst (v := 1) hx hb dX8_hears_52 (by decide) ?_
        refine lv_iadd hx hb dX8_hears_53 ?_
        refine lv_iload_n hx hb dX8_hears_54 rfl (lv_at hl 2 rfl) ?_
        obtain ⟨M47, q48, hf⟩ := ob hf
        refine astM X hw kdv_205 q48 dX8_hears_55 (fun H locs hw => ?_)
        refine lv_aload_n hx hb dX8_hears_56 rfl (lv_at hl 0 rfl) ?_
        refine lv_dup hx hb dX8_hears_57 rfl ?_
        refine gt_X8 X hw 10 kk_197 rfl (by decide) mw_731 rfl dX8_hears_58 ?_
        refine lv_iconst (v := 1) hx hb dX8_hears_61 (by decide) ?_
        refine lv_iadd hx hb dX8_hears_62 ?_
        obtain ⟨M49, eM49, hf⟩ := ob hf
        refine pt_X8_10 X hw kk_197 mw_731 dX8_hears_63 (fun H locs hw => ?_)
        rw [Option.some.inj eM49] at hw
        refine lv_aload_n hx hb dX8_hears_66 rfl (lv_at hl 0 rfl) ?_
        refine gt_X8 X hw 10 kk_197 rfl (by decide) mw_731 rfl dX8_hears_67 ?_
        replace hf := Option.some.inj hf
        subst hf
        exact eI X hw hr hlk dX8_hears_70
      · replace hf := (if_pos c44).symm.trans hf
        refine lv_bipush (v := (-3)) hx hb dX8_hears_27 (by decide) ?_
        replace hf := Option.some.inj hf
        subst hf
        exact eI X hw hr hlk dX8_hears_29
    · replace hf := (if_pos c43).symm.trans hf
      refine lv_iconst (v := (-1)) hx hb dX8_hears_17 (by decide) ?_
      replace hf := Option.some.inj hf
      subst hf
      exact eI X hw hr hlk dX8_hears_18

abbrev rmX8_isHeard : Room := { frames := 2, cells := 0, slots := 0, locals := 46 }
theorem hd_X8_isHeard : Hd yX8_isHeard RX8 1 := by decide +kernel
def gX8_isHeard_89  (k4 : Int32 → Int32 → Int32 → Mem → Option (Int32)) (x1 : Int32) (x3 : Int32) (y0 : Int32) (M : Mem) : Option (Int32) := (some (x3 + 1)).bind fun z55 => k4 x1 y0 z55 M
def gX8_isHeard_88  (k4 : Int32 → Int32 → Int32 → Mem → Option (Int32)) (x1 : Int32) (x3 : Int32) (M : Mem) : Option (Int32) := gX8_isHeard_89 k4 x1 x3 0 M
def gX8_isHeard_56  (k4 : Int32 → Int32 → Int32 → Mem → Option (Int32)) (k18 : Int32 → Int32 → Int32 → Int32 → Int32 → Mem → Option (Int32)) (x1 : Int32) (x2 : Int32) (x3 : Int32) (x5 : Int32) (y0 : Int32) (y1 : Int32) (M : Mem) : Option (Int32) := (some (y1 + y0)).bind fun z62 => (some (x5 + 1)).bind fun z63 => k18 x1 x2 x3 z62 z63 M
def gX8_isHeard_18  (k4 : Int32 → Int32 → Int32 → Mem → Option (Int32)) : Nat → Int32 → Int32 → Int32 → Int32 → Int32 → Mem → Option (Int32)
  | 0, _, _, _, _, _, _ => none
  | n + 1, x1, x2, x3, x4, x5, M => if (M 197 0) ≤ x5 then (if x2 = 0 then (gX8_isHeard_88 k4 x1 x3 M) else ((ldA 8 (M 205) ((2 * x3) + 1)).bind fun v56 => if x4 = v56 then (gX8_isHeard_89 k4 x1 x3 1 M) else (gX8_isHeard_88 k4 x1 x3 M))) else ((gX8_has x1 x5).bind fun u59 => if u59 = 0 then (gX8_isHeard_56 k4 (gX8_isHeard_18 k4 n) x1 x2 x3 x5 0 x4 M) else ((ldA 8 (M 205) (2 * x3)).bind fun v64 => (gX8_layersOf x5 v64 M).bind fun u66 => gX8_isHeard_56 k4 (gX8_isHeard_18 k4 n) x1 x2 x3 x5 u66 x4 M))
def gX8_isHeard_4   : Nat → Int32 → Int32 → Int32 → Mem → Option (Int32)
  | 0, _, _, _, _ => none
  | n + 1, x1, x2, x3, M => if (M 197 10) ≤ x3 then ((zr x2).bind fun v51 => some (v51)) else (gX8_isHeard_18 (gX8_isHeard_4 n) FU x1 x2 x3 0 0 M)
def gX8_isHeard (x1 : Int32) (M : Mem) : Option (Int32) := gX8_isHeard_4 FU x1 1 0 M
set_option maxHeartbeats 4000000 in
set_option maxRecDepth 100000 in
theorem tX8_isHeard_89 {p : Program} {l : Launch} {e : Env} {s : State} {m : MethodId} {args : Array Value} {below : List Frame} {meth : Method} {c : Code} {E : EE} {b : Nat} {MC : Mem} {TC : Int64} {TM : Int64} {res : Int32} (X : CX E p s m args c cX8_isHeard 6 RX8) (hr : meth.sig.returnType = (some .boolean)) (hlk : meth.locks = false)   {k4 : Int32 → Int32 → Int32 → Mem → Option (Int32)} (hk4 : ∀ (x1 : Int32) (x2 : Int32) (x3 : Int32) (M : Mem), k4 x1 x2 x3 M = some res → ∀ (H : Heap) (locs : List Loc) (ls : Array Slot), WW E b MC TC M TM s H locs → lv_has ls 6 [(0, .ref (b + 197)), (1, .int x1), (2, .int x2), (3, .int x3)] → W p l e rmX8_isHeard s m args below meth c H locs 0 0 (MQ below (va_Qi (fun x (_ : Unit) => x = res) (fun _ t => PW E b MC TC M TM t) (AA b)) args s 0 0 (AA b)) (F0 m 4 ls [])) : ∀ (x1 : Int32) (x3 : Int32) (y0 : Int32) (M : Mem), gX8_isHeard_89 k4 x1 x3 y0 M = some res → ∀ (H : Heap) (locs : List Loc) (ls : Array Slot), WW E b MC TC M TM s H locs → lv_has ls 6 [(0, .ref (b + 197)), (1, .int x1), (3, .int x3)] → W p l e rmX8_isHeard s m args below meth c H locs 0 0 (MQ below (va_Qi (fun x (_ : Unit) => x = res) (fun _ t => PW E b MC TC M TM t) (AA b)) args s 0 0 (AA b)) (F0 m 89 ls [.int y0]) := by
  have hx := X.1
  have hb := X.2.1
  intro x1 x3 y0 M hf H locs ls hw hl
  rw [gX8_isHeard_89] at hf
  refine lv_istore_n (lv' := [(2, .int y0), (0, .ref (b + 197)), (1, .int x1), (3, .int x3)]) hx hb dX8_isHeard_89 rfl hl (by decide) rfl (fun ls hl => ?_)
  obtain ⟨z55, ez55⟩ : ∃ y : Int32, y = x3 + 1 := ⟨_, rfl⟩
  replace hf := nmb hf ez55
  refine lv_iinc (v := z55) (lv' := [(3, .int z55), (2, .int y0), (0, .ref (b + 197)), (1, .int x1)]) hx hb dX8_isHeard_90 hl (k := 3) rfl (by rw [ez55]; rfl) (by decide) rfl (fun ls hl => ?_)
  refine lv_goto (tgt := 4) hx hb dX8_isHeard_93 (by decide) ?_
  exact hk4 x1 y0 z55 M hf H locs ls hw (lv_sub hl [2, 3, 1, 0] rfl)
set_option maxHeartbeats 4000000 in
set_option maxRecDepth 100000 in
theorem tX8_isHeard_88 {p : Program} {l : Launch} {e : Env} {s : State} {m : MethodId} {args : Array Value} {below : List Frame} {meth : Method} {c : Code} {E : EE} {b : Nat} {MC : Mem} {TC : Int64} {TM : Int64} {res : Int32} (X : CX E p s m args c cX8_isHeard 6 RX8) (hr : meth.sig.returnType = (some .boolean)) (hlk : meth.locks = false)   {k4 : Int32 → Int32 → Int32 → Mem → Option (Int32)} (hk4 : ∀ (x1 : Int32) (x2 : Int32) (x3 : Int32) (M : Mem), k4 x1 x2 x3 M = some res → ∀ (H : Heap) (locs : List Loc) (ls : Array Slot), WW E b MC TC M TM s H locs → lv_has ls 6 [(0, .ref (b + 197)), (1, .int x1), (2, .int x2), (3, .int x3)] → W p l e rmX8_isHeard s m args below meth c H locs 0 0 (MQ below (va_Qi (fun x (_ : Unit) => x = res) (fun _ t => PW E b MC TC M TM t) (AA b)) args s 0 0 (AA b)) (F0 m 4 ls [])) : ∀ (x1 : Int32) (x3 : Int32) (M : Mem), gX8_isHeard_88 k4 x1 x3 M = some res → ∀ (H : Heap) (locs : List Loc) (ls : Array Slot), WW E b MC TC M TM s H locs → lv_has ls 6 [(0, .ref (b + 197)), (1, .int x1), (3, .int x3)] → W p l e rmX8_isHeard s m args below meth c H locs 0 0 (MQ below (va_Qi (fun x (_ : Unit) => x = res) (fun _ t => PW E b MC TC M TM t) (AA b)) args s 0 0 (AA b)) (F0 m 88 ls []) := by
  have hx := X.1
  have hb := X.2.1
  intro x1 x3 M hf H locs ls hw hl
  rw [gX8_isHeard_88] at hf
  refine lv_iconst (v := 0) hx hb dX8_isHeard_88 (by decide) ?_
  exact tX8_isHeard_89 X hr hlk hk4 x1 x3 0 M hf H locs ls hw (lv_sub hl [0, 1, 2] rfl)
set_option maxHeartbeats 4000000 in
set_option maxRecDepth 100000 in
theorem tX8_isHeard_56 {p : Program} {l : Launch} {e : Env} {s : State} {m : MethodId} {args : Array Value} {below : List Frame} {meth : Method} {c : Code} {E : EE} {b : Nat} {MC : Mem} {TC : Int64} {TM : Int64} {res : Int32} (X : CX E p s m args c cX8_isHeard 6 RX8) (hr : meth.sig.returnType = (some .boolean)) (hlk : meth.locks = false)   {k4 : Int32 → Int32 → Int32 → Mem → Option (Int32)} (hk4 : ∀ (x1 : Int32) (x2 : Int32) (x3 : Int32) (M : Mem), k4 x1 x2 x3 M = some res → ∀ (H : Heap) (locs : List Loc) (ls : Array Slot), WW E b MC TC M TM s H locs → lv_has ls 6 [(0, .ref (b + 197)), (1, .int x1), (2, .int x2), (3, .int x3)] → W p l e rmX8_isHeard s m args below meth c H locs 0 0 (MQ below (va_Qi (fun x (_ : Unit) => x = res) (fun _ t => PW E b MC TC M TM t) (AA b)) args s 0 0 (AA b)) (F0 m 4 ls [])) {k18 : Int32 → Int32 → Int32 → Int32 → Int32 → Mem → Option (Int32)} (hk18 : ∀ (x1 : Int32) (x2 : Int32) (x3 : Int32) (x4 : Int32) (x5 : Int32) (M : Mem), k18 x1 x2 x3 x4 x5 M = some res → ∀ (H : Heap) (locs : List Loc) (ls : Array Slot), WW E b MC TC M TM s H locs → lv_has ls 6 [(0, .ref (b + 197)), (1, .int x1), (2, .int x2), (3, .int x3), (4, .int x4), (5, .int x5)] → W p l e rmX8_isHeard s m args below meth c H locs 0 0 (MQ below (va_Qi (fun x (_ : Unit) => x = res) (fun _ t => PW E b MC TC M TM t) (AA b)) args s 0 0 (AA b)) (F0 m 18 ls [])) : ∀ (x1 : Int32) (x2 : Int32) (x3 : Int32) (x5 : Int32) (y0 : Int32) (y1 : Int32) (M : Mem), gX8_isHeard_56 k4 k18 x1 x2 x3 x5 y0 y1 M = some res → ∀ (H : Heap) (locs : List Loc) (ls : Array Slot), WW E b MC TC M TM s H locs → lv_has ls 6 [(0, .ref (b + 197)), (1, .int x1), (2, .int x2), (3, .int x3), (5, .int x5)] → W p l e rmX8_isHeard s m args below meth c H locs 0 0 (MQ below (va_Qi (fun x (_ : Unit) => x = res) (fun _ t => PW E b MC TC M TM t) (AA b)) args s 0 0 (AA b)) (F0 m 56 ls [.int y0, .int y1]) := by
  have hx := X.1
  have hb := X.2.1
  intro x1 x2 x3 x5 y0 y1 M hf H locs ls hw hl
  rw [gX8_isHeard_56] at hf
  refine lv_iadd hx hb dX8_isHeard_56 ?_
  refine lv_topi (fun z62 ez62 => ?_)
  replace hf := nmb hf ez62
  refine lv_istore (lv' := [(4, .int z62), (0, .ref (b + 197)), (1, .int x1), (2, .int x2), (3, .int x3), (5, .int x5)]) hx hb dX8_isHeard_57 hl (by decide) rfl (fun ls hl => ?_)
  obtain ⟨z63, ez63⟩ : ∃ y : Int32, y = x5 + 1 := ⟨_, rfl⟩
  replace hf := nmb hf ez63
  refine lv_iinc (v := z63) (lv' := [(5, .int z63), (4, .int z62), (0, .ref (b + 197)), (1, .int x1), (2, .int x2), (3, .int x3)]) hx hb dX8_isHeard_59 hl (k := 5) rfl (by rw [ez63]; rfl) (by decide) rfl (fun ls hl => ?_)
  refine lv_goto (tgt := 18) hx hb dX8_isHeard_62 (by decide) ?_
  exact hk18 x1 x2 x3 z62 z63 M hf H locs ls hw (lv_sub hl [2, 3, 4, 5, 1, 0] rfl)
set_option maxHeartbeats 4000000 in
set_option maxRecDepth 100000 in
theorem tX8_isHeard_18 {p : Program} {l : Launch} {e : Env} {s : State} {m : MethodId} {args : Array Value} {below : List Frame} {meth : Method} {c : Code} {E : EE} {b : Nat} {MC : Mem} {TC : Int64} {TM : Int64} {res : Int32} (X : CX E p s m args c cX8_isHeard 6 RX8) (hr : meth.sig.returnType = (some .boolean)) (hlk : meth.locks = false)   {k4 : Int32 → Int32 → Int32 → Mem → Option (Int32)} (hk4 : ∀ (x1 : Int32) (x2 : Int32) (x3 : Int32) (M : Mem), k4 x1 x2 x3 M = some res → ∀ (H : Heap) (locs : List Loc) (ls : Array Slot), WW E b MC TC M TM s H locs → lv_has ls 6 [(0, .ref (b + 197)), (1, .int x1), (2, .int x2), (3, .int x3)] → W p l e rmX8_isHeard s m args below meth c H locs 0 0 (MQ below (va_Qi (fun x (_ : Unit) => x = res) (fun _ t => PW E b MC TC M TM t) (AA b)) args s 0 0 (AA b)) (F0 m 4 ls [])) : ∀ (n : Nat) (x1 : Int32) (x2 : Int32) (x3 : Int32) (x4 : Int32) (x5 : Int32) (M : Mem), gX8_isHeard_18 k4 n x1 x2 x3 x4 x5 M = some res → ∀ (H : Heap) (locs : List Loc) (ls : Array Slot), WW E b MC TC M TM s H locs → lv_has ls 6 [(0, .ref (b + 197)), (1, .int x1), (2, .int x2), (3, .int x3), (4, .int x4), (5, .int x5)] → W p l e rmX8_isHeard s m args below meth c H locs 0 0 (MQ below (va_Qi (fun x (_ : Unit) => x = res) (fun _ t => PW E b MC TC M TM t) (AA b)) args s 0 0 (AA b)) (F0 m 18 ls []) := by
  have hx := X.1
  have hb := X.2.1
  intro n
  induction n with
  | zero =>
    intro x1 x2 x3 x4 x5 M hf
    cases (show (none : Option (Int32)) = some res from hf)
  | succ n ih =>
    intro x1 x2 x3 x4 x5 M hf H locs ls hw hl
    rw [gX8_isHeard_18] at hf
    refine lv_iload hx hb dX8_isHeard_18 (lv_at hl 5 rfl) ?_
    refine lv_aload_n hx hb dX8_isHeard_20 rfl (lv_at hl 0 rfl) ?_
    refine gt_X8 X hw 0 kk_197 rfl (by decide) mw_721 rfl dX8_isHeard_21 ?_
    refine lv_icmp_ge (tgt := 65) hx hb dX8_isHeard_24 (by decide) (fun c53 => ?_) (fun c53 => ?_)
    · replace hf := (if_pos c53).symm.trans hf
      refine lv_iload_n hx hb dX8_isHeard_65 rfl (lv_at hl 2 rfl) ?_
      refine lv_if_eq (tgt := 88) hx hb dX8_isHeard_66 (by decide) (fun c54 => ?_) (fun c54 => ?_)
      · replace hf := (if_pos c54).symm.trans hf
        exact tX8_isHeard_88 X hr hlk hk4 x1 x3 M hf H locs ls hw (lv_sub hl [0, 1, 3] rfl)
      · replace hf := (if_neg c54).symm.trans hf
        refine lv_iload hx hb dX8_isHeard_69 (lv_at hl 4 rfl) ?_
        refine lv_aload_n hx hb dX8_isHeard_71 rfl (lv_at hl 0 rfl) ?_
        refine gt_X8 X hw 11 kk_197 rfl (by decide) mw_732 rfl dX8_isHeard_72 ?_
        refine lv_iconst (v := 2) hx hb dX8_isHeard_75 (by decide) ?_
        refine lv_iload_n hx hb dX8_isHeard_76 rfl (lv_at hl 3 rfl) ?_
        refine lv_imul hx hb dX8_isHeard_77 ?_
        refine lv_iconst (v := 1) hx hb dX8_isHeard_78 (by decide) ?_
        refine lv_iadd hx hb dX8_isHeard_79 ?_
        obtain ⟨v56, q57, hf⟩ := ob hf
        refine aldM X hw kdv_205 q57 dX8_isHeard_80 ?_
        refine lv_icmp_ne (tgt := 88) hx hb dX8_isHeard_81 (by decide) (fun c58 => ?_) (fun c58 => ?_)
        · replace hf := (if_neg c58).symm.trans hf
          exact tX8_isHeard_88 X hr hlk hk4 x1 x3 M hf H locs ls hw (lv_sub hl [0, 1, 3] rfl)
        · replace hf := (if_pos c58).symm.trans hf
          refine lv_iconst (v := 1) hx hb dX8_isHeard_84 (by decide) ?_
          refine lv_goto (tgt := 89) hx hb dX8_isHeard_85 (by decide) ?_
          exact tX8_isHeard_89 X hr hlk hk4 x1 x3 1 M hf H locs ls hw (lv_sub hl [0, 1, 3] rfl)
    · replace hf := (if_neg c53).symm.trans hf
      refine lv_iload hx hb dX8_isHeard_27 (lv_at hl 4 rfl) ?_
      refine lv_iload_n hx hb dX8_isHeard_29 rfl (lv_at hl 1 rfl) ?_
      refine lv_iload hx hb dX8_isHeard_30 (lv_at hl 5 rfl) ?_
      obtain ⟨u59, q60, hf⟩ := ob hf
      refine cSi (As := [.int x1, .int x5]) X hw (ctX8_has l E b  q60) ⟨mw_966, mw_967, mw_61, mw_968⟩ hd_X8_has ⟨Nat.le_of_ble_eq_true rfl, Nat.le_of_ble_eq_true rfl, rfl, rfl⟩ rfl hl.1 rfl (Nat.le_of_ble_eq_true rfl) dX8_isHeard_32 (fun H locs hw => ?_)
      refine lv_if_eq (tgt := 55) hx hb dX8_isHeard_35 (by decide) (fun c61 => ?_) (fun c61 => ?_)
      · replace hf := (if_pos c61).symm.trans hf
        refine lv_iconst (v := 0) hx hb dX8_isHeard_55 (by decide) ?_
        exact tX8_isHeard_56 X hr hlk hk4 ih x1 x2 x3 x5 0 x4 M hf H locs ls hw (lv_sub hl [0, 1, 2, 3, 5] rfl)
      · replace hf := (if_neg c61).symm.trans hf
        refine lv_aload_n hx hb dX8_isHeard_38 rfl (lv_at hl 0 rfl) ?_
        refine lv_iload hx hb dX8_isHeard_39 (lv_at hl 5 rfl) ?_
        refine lv_aload_n hx hb dX8_isHeard_41 rfl (lv_at hl 0 rfl) ?_
        refine gt_X8 X hw 11 kk_197 rfl (by decide) mw_732 rfl dX8_isHeard_42 ?_
        refine lv_iconst (v := 2) hx hb dX8_isHeard_45 (by decide) ?_
        refine lv_iload_n hx hb dX8_isHeard_46 rfl (lv_at hl 3 rfl) ?_
        refine lv_imul hx hb dX8_isHeard_47 ?_
        obtain ⟨v64, q65, hf⟩ := ob hf
        refine aldM X hw kdv_205 q65 dX8_isHeard_48 ?_
        obtain ⟨u66, q67, hf⟩ := ob hf
        refine cVi (As := [.int x5, .int v64]) X hw (ctX8_layersOf l E b  q67) ⟨mw_872, mw_874, mw_38, mw_61, mw_875⟩ hd_X8_layersOf ⟨Nat.le_of_ble_eq_true rfl, Nat.le_of_ble_eq_true rfl, rfl, rfl⟩ (kdk kk_197 (by decide)) (ce_X8 E _ _ _ _ kk_197) (show vwCl[8]? = some (RX8, TX8, 31) from rfl) rfl hl.1 rfl (Nat.le_of_ble_eq_true rfl) dX8_isHeard_49 (fun H locs hw => ?_)
        refine lv_goto (tgt := 56) hx hb dX8_isHeard_52 (by decide) ?_
        exact tX8_isHeard_56 X hr hlk hk4 ih x1 x2 x3 x5 u66 x4 M hf H locs ls hw (lv_sub hl [0, 1, 2, 3, 5] rfl)
set_option maxHeartbeats 4000000 in
set_option maxRecDepth 100000 in
theorem tX8_isHeard_4 {p : Program} {l : Launch} {e : Env} {s : State} {m : MethodId} {args : Array Value} {below : List Frame} {meth : Method} {c : Code} {E : EE} {b : Nat} {MC : Mem} {TC : Int64} {TM : Int64} {res : Int32} (X : CX E p s m args c cX8_isHeard 6 RX8) (hr : meth.sig.returnType = (some .boolean)) (hlk : meth.locks = false)    : ∀ (n : Nat) (x1 : Int32) (x2 : Int32) (x3 : Int32) (M : Mem), gX8_isHeard_4 n x1 x2 x3 M = some res → ∀ (H : Heap) (locs : List Loc) (ls : Array Slot), WW E b MC TC M TM s H locs → lv_has ls 6 [(0, .ref (b + 197)), (1, .int x1), (2, .int x2), (3, .int x3)] → W p l e rmX8_isHeard s m args below meth c H locs 0 0 (MQ below (va_Qi (fun x (_ : Unit) => x = res) (fun _ t => PW E b MC TC M TM t) (AA b)) args s 0 0 (AA b)) (F0 m 4 ls []) := by
  have hx := X.1
  have hb := X.2.1
  intro n
  induction n with
  | zero =>
    intro x1 x2 x3 M hf
    cases (show (none : Option (Int32)) = some res from hf)
  | succ n ih =>
    intro x1 x2 x3 M hf H locs ls hw hl
    rw [gX8_isHeard_4] at hf
    refine lv_iload_n hx hb dX8_isHeard_4 rfl (lv_at hl 3 rfl) ?_
    refine lv_aload_n hx hb dX8_isHeard_5 rfl (lv_at hl 0 rfl) ?_
    refine gt_X8 X hw 10 kk_197 rfl (by decide) mw_731 rfl dX8_isHeard_6 ?_
    refine lv_icmp_ge (tgt := 96) hx hb dX8_isHeard_9 (by decide) (fun c50 => ?_) (fun c50 => ?_)
    · replace hf := (if_pos c50).symm.trans hf
      refine lv_iload_n hx hb dX8_isHeard_96 rfl (lv_at hl 2 rfl) ?_
      obtain ⟨v51, q52, hf⟩ := ob hf
      obtain ⟨eq52, q52⟩ := zr_s q52
      rw [eq52]
      replace hf := Option.some.inj hf
      subst hf
      exact eZ X hw q52 hr hlk dX8_isHeard_97
    · replace hf := (if_neg c50).symm.trans hf
      refine lv_iconst (v := 0) hx hb dX8_isHeard_12 (by decide) ?_
      refine lv_istore (lv' := [(4, .int 0), (0, .ref (b + 197)), (1, .int x1), (2, .int x2), (3, .int x3)]) hx hb dX8_isHeard_13 hl (by decide) rfl (fun ls hl => ?_)
      refine lv_iconst (v := 0) hx hb dX8_isHeard_15 (by decide) ?_
      refine lv_istore (lv' := [(5, .int 0), (4, .int 0), (0, .ref (b + 197)), (1, .int x1), (2, .int x2), (3, .int x3)]) hx hb dX8_isHeard_16 hl (by decide) rfl (fun ls hl => ?_)
      exact tX8_isHeard_18 X hr hlk ih FU x1 x2 x3 0 0 M hf H locs ls hw (lv_sub hl [2, 3, 4, 5, 1, 0] rfl)
set_option maxHeartbeats 4000000 in
set_option maxRecDepth 100000 in
theorem ctX8_isHeard (l : Launch) (E : EE) (b : Nat) {MC : Mem} {TC : Int64} {TM : Int64} {x1 : Int32} {M : Mem} {res : Int32}  (hf : gX8_isHeard x1 M = some res) : MetI l E b yX8_isHeard (.code yX8_isHeard cX8_isHeard 6 (some .boolean)) rmX8_isHeard [.ref (b + 197), .int x1] MC TC M TM res MC TC M TM := by
  refine Met.ofW (cc := cX8_isHeard) (maxL := 6) (ret := (some .boolean)) (by decide) rfl ?_
  intro p e s m args below meth c s₁ B hml hv
  obtain ⟨rfl, hP, hK⟩ := hv
  have hx := B.exec
  have hb := B.bytes
  have X : CX E p s m _ c cX8_isHeard 6 RX8 := ⟨hx, hb, hml, findClass_of_methodNamed B.named, fun w h => atoms_spec (ws := _ :: wt) B.pre w (List.mem_cons_of_mem _ h), hK⟩
  have hr := B.returns
  have hlk := B.notSynchronized
  have hw : WW E b MC TC M TM s s.heap [] := ⟨hP, va_S.rf⟩
  have hl := lv_entry ([.ref (b + 197), .int x1]) (n := 6) (Nat.le_of_ble_eq_true rfl)
  rw [lg_entry_eq]
  generalize (lg_sl ([.ref (b + 197), .int x1]) ++ List.replicate (6 - (lg_sl ([.ref (b + 197), .int x1])).length) Slot.unset).toArray = ls at hl ⊢
  have hl : lv_has ls 6 [(0, .ref (b + 197)), (1, .int x1)] := hl
  obtain ⟨H, hH⟩ : ∃ H, H = s.heap := ⟨_, rfl⟩
  obtain ⟨locs, hL⟩ : ∃ L : List Loc, L = [] := ⟨_, rfl⟩
  rw [← hH, ← hL] at hw
  suffices hg : W p l e rmX8_isHeard s m _ below meth c H locs 0 0 (MQ below (va_Qi (fun x (_ : Unit) => x = res) (fun _ t => PW E b MC TC M TM t) (AA b)) _ s 0 0 (AA b)) (F0 m 0 ls []) by rw [hH, hL] at hg; exact hg
  clear hH hL
  rw [gX8_isHeard] at hf
  refine lv_iconst (v := 1) hx hb dX8_isHeard_0 (by decide) ?_
  refine lv_istore_n (lv' := [(2, .int 1), (0, .ref (b + 197)), (1, .int x1)]) hx hb dX8_isHeard_1 rfl hl (by decide) rfl (fun ls hl => ?_)
  refine lv_iconst (v := 0) hx hb dX8_isHeard_2 (by decide) ?_
  refine lv_istore_n (lv' := [(3, .int 0), (2, .int 1), (0, .ref (b + 197)), (1, .int x1)]) hx hb dX8_isHeard_3 rfl hl (by decide) rfl (fun ls hl => ?_)
  exact tX8_isHeard_4 X hr hlk FU x1 1 0 M hf H locs ls hw (lv_sub hl [2, 3, 1, 0] rfl)

abbrev rmX8_sets : Room := { frames := 3, cells := 0, slots := 0, locals := 71 }
theorem hd_X8_sets : Hd yX8_sets RX8 1 := by decide +kernel
def gX8_sets_105   (y0 : Int32) (M : Mem) : Option (Int32) := some (y0)
def gX8_sets_94   (x1 : Int32) (x6 : Int32) (M : Mem) : Option (Int32) := if x1 = 0 then (gX8_sets_105 x6 M) else (gX8_sets_105 ((-9)) M)
def gX8_sets_131   (y0 : Int32) (M : Mem) : Option (Int32) := some (y0)
def gX8_sets_79  (k35 : Int32 → Int32 → Int32 → Int32 → Int32 → Int32 → Int32 → Mem → Option (Int32)) (x1 : Int32) (x2 : Int32) (x3 : Int32) (x4 : Int32) (x5 : Int32) (x6 : Int32) (x7 : Int32) (M : Mem) : Option (Int32) := (some (x7 + 1)).bind fun z81 => k35 x1 x2 x3 x4 x5 x6 z81 M
def gX8_sets_62  (k35 : Int32 → Int32 → Int32 → Int32 → Int32 → Int32 → Int32 → Mem → Option (Int32)) (x1 : Int32) (x2 : Int32) (x3 : Int32) (x4 : Int32) (x6 : Int32) (x7 : Int32) (y0 : Int32) (M : Mem) : Option (Int32) := (some (x3 &&& x7)).bind fun z83 => (some (x4 ||| x7)).bind fun z84 => (some (x6 + 1)).bind fun z85 => gX8_sets_79 k35 x1 x2 z83 z84 y0 z85 x7 M
def gX8_sets_35   : Nat → Int32 → Int32 → Int32 → Int32 → Int32 → Int32 → Int32 → Mem → Option (Int32)
  | 0, _, _, _, _, _, _, _, _ => none
  | n + 1, x1, x2, x3, x4, x5, x6, x7, M => if x2 < x7 then (if x1 = 0 then (gX8_sets_94 x1 x6 M) else (if x6 = 0 then (gX8_sets_94 x1 x6 M) else (if x1 = 1 then (gX8_sets_131 x5 M) else (if x1 = 2 then (gX8_sets_131 x3 M) else (gX8_sets_131 (x2 &&& (x4 ^^^ ((-1)))) M))))) else ((gX8_isHeard x7 M).bind fun u78 => if u78 = 0 then (gX8_sets_79 (gX8_sets_35 n) x1 x2 x3 x4 x5 x6 x7 M) else (if x6 = 0 then (gX8_sets_62 (gX8_sets_35 n) x1 x2 x3 x4 x6 x7 x7 M) else (gX8_sets_62 (gX8_sets_35 n) x1 x2 x3 x4 x6 x7 x5 M)))
def gX8_sets (x1 : Int32) (M : Mem) : Option (Int32) := (gX8_in x1 0 3).bind fun u68 => if u68 = 0 then (some ((-1))) else ((some ((1 <<< ((M 197 0) &&& 31)) - 1)).bind fun z71 => gX8_sets_35 FU x1 z71 z71 0 ((-9)) 0 0 M)
set_option maxHeartbeats 4000000 in
set_option maxRecDepth 100000 in
theorem tX8_sets_105 {p : Program} {l : Launch} {e : Env} {s : State} {m : MethodId} {args : Array Value} {below : List Frame} {meth : Method} {c : Code} {E : EE} {b : Nat} {MC : Mem} {TC : Int64} {TM : Int64} {res : Int32} (X : CX E p s m args c cX8_sets 8 RX8) (hr : meth.sig.returnType = (some .int)) (hlk : meth.locks = false)    : ∀ (y0 : Int32) (M : Mem), gX8_sets_105 y0 M = some res → ∀ (H : Heap) (locs : List Loc) (ls : Array Slot), WW E b MC TC M TM s H locs → lv_has ls 8 [] → W p l e rmX8_sets s m args below meth c H locs 0 0 (MQ below (va_Qi (fun x (_ : Unit) => x = res) (fun _ t => PW E b MC TC M TM t) (AA b)) args s 0 0 (AA b)) (F0 m 105 ls [.int y0]) := by
  have hx := X.1
  have hb := X.2.1
  intro y0 M hf H locs ls hw hl
  rw [gX8_sets_105] at hf
  replace hf := Option.some.inj hf
  subst hf
  exact eI X hw hr hlk dX8_sets_105
set_option maxHeartbeats 4000000 in
set_option maxRecDepth 100000 in
theorem tX8_sets_94 {p : Program} {l : Launch} {e : Env} {s : State} {m : MethodId} {args : Array Value} {below : List Frame} {meth : Method} {c : Code} {E : EE} {b : Nat} {MC : Mem} {TC : Int64} {TM : Int64} {res : Int32} (X : CX E p s m args c cX8_sets 8 RX8) (hr : meth.sig.returnType = (some .int)) (hlk : meth.locks = false)    : ∀ (x1 : Int32) (x6 : Int32) (M : Mem), gX8_sets_94 x1 x6 M = some res → ∀ (H : Heap) (locs : List Loc) (ls : Array Slot), WW E b MC TC M TM s H locs → lv_has ls 8 [(1, .int x1), (6, .int x6)] → W p l e rmX8_sets s m args below meth c H locs 0 0 (MQ below (va_Qi (fun x (_ : Unit) => x = res) (fun _ t => PW E b MC TC M TM t) (AA b)) args s 0 0 (AA b)) (F0 m 94 ls []) := by
  have hx := X.1
  have hb := X.2.1
  intro x1 x6 M hf H locs ls hw hl
  rw [gX8_sets_94] at hf
  refine lv_iload_n hx hb dX8_sets_94 rfl (lv_at hl 0 rfl) ?_
  refine lv_if_ne (tgt := 103) hx hb dX8_sets_95 (by decide) (fun c74 => ?_) (fun c74 => ?_)
  · replace hf := (if_neg c74).symm.trans hf
    refine lv_bipush (v := (-9)) hx hb dX8_sets_103 (by decide) ?_
    exact tX8_sets_105 X hr hlk ((-9)) M hf H locs ls hw (lv_sub hl [] rfl)
  · replace hf := (if_pos c74).symm.trans hf
    refine lv_iload hx hb dX8_sets_98 (lv_at hl 1 rfl) ?_
    refine lv_goto (tgt := 105) hx hb dX8_sets_100 (by decide) ?_
    exact tX8_sets_105 X hr hlk x6 M hf H locs ls hw (lv_sub hl [] rfl)
set_option maxHeartbeats 4000000 in
set_option maxRecDepth 100000 in
theorem tX8_sets_131 {p : Program} {l : Launch} {e : Env} {s : State} {m : MethodId} {args : Array Value} {below : List Frame} {meth : Method} {c : Code} {E : EE} {b : Nat} {MC : Mem} {TC : Int64} {TM : Int64} {res : Int32} (X : CX E p s m args c cX8_sets 8 RX8) (hr : meth.sig.returnType = (some .int)) (hlk : meth.locks = false)    : ∀ (y0 : Int32) (M : Mem), gX8_sets_131 y0 M = some res → ∀ (H : Heap) (locs : List Loc) (ls : Array Slot), WW E b MC TC M TM s H locs → lv_has ls 8 [] → W p l e rmX8_sets s m args below meth c H locs 0 0 (MQ below (va_Qi (fun x (_ : Unit) => x = res) (fun _ t => PW E b MC TC M TM t) (AA b)) args s 0 0 (AA b)) (F0 m 131 ls [.int y0]) := by
  have hx := X.1
  have hb := X.2.1
  intro y0 M hf H locs ls hw hl
  rw [gX8_sets_131] at hf
  replace hf := Option.some.inj hf
  subst hf
  exact eI X hw hr hlk dX8_sets_131
set_option maxHeartbeats 4000000 in
set_option maxRecDepth 100000 in
theorem tX8_sets_79 {p : Program} {l : Launch} {e : Env} {s : State} {m : MethodId} {args : Array Value} {below : List Frame} {meth : Method} {c : Code} {E : EE} {b : Nat} {MC : Mem} {TC : Int64} {TM : Int64} {res : Int32} (X : CX E p s m args c cX8_sets 8 RX8) (hr : meth.sig.returnType = (some .int)) (hlk : meth.locks = false)   {k35 : Int32 → Int32 → Int32 → Int32 → Int32 → Int32 → Int32 → Mem → Option (Int32)} (hk35 : ∀ (x1 : Int32) (x2 : Int32) (x3 : Int32) (x4 : Int32) (x5 : Int32) (x6 : Int32) (x7 : Int32) (M : Mem), k35 x1 x2 x3 x4 x5 x6 x7 M = some res → ∀ (H : Heap) (locs : List Loc) (ls : Array Slot), WW E b MC TC M TM s H locs → lv_has ls 8 [(0, .ref (b + 197)), (1, .int x1), (2, .int x2), (3, .int x3), (4, .int x4), (5, .int x5), (6, .int x6), (7, .int x7)] → W p l e rmX8_sets s m args below meth c H locs 0 0 (MQ below (va_Qi (fun x (_ : Unit) => x = res) (fun _ t => PW E b MC TC M TM t) (AA b)) args s 0 0 (AA b)) (F0 m 35 ls [])) : ∀ (x1 : Int32) (x2 : Int32) (x3 : Int32) (x4 : Int32) (x5 : Int32) (x6 : Int32) (x7 : Int32) (M : Mem), gX8_sets_79 k35 x1 x2 x3 x4 x5 x6 x7 M = some res → ∀ (H : Heap) (locs : List Loc) (ls : Array Slot), WW E b MC TC M TM s H locs → lv_has ls 8 [(0, .ref (b + 197)), (1, .int x1), (2, .int x2), (3, .int x3), (4, .int x4), (5, .int x5), (6, .int x6), (7, .int x7)] → W p l e rmX8_sets s m args below meth c H locs 0 0 (MQ below (va_Qi (fun x (_ : Unit) => x = res) (fun _ t => PW E b MC TC M TM t) (AA b)) args s 0 0 (AA b)) (F0 m 79 ls []) := by
  have hx := X.1
  have hb := X.2.1
  intro x1 x2 x3 x4 x5 x6 x7 M hf H locs ls hw hl
  rw [gX8_sets_79] at hf
  obtain ⟨z81, ez81⟩ : ∃ y : Int32, y = x7 + 1 := ⟨_, rfl⟩
  replace hf := nmb hf ez81
  refine lv_iinc (v := z81) (lv' := [(7, .int z81), (0, .ref (b + 197)), (1, .int x1), (2, .int x2), (3, .int x3), (4, .int x4), (5, .int x5), (6, .int x6)]) hx hb dX8_sets_79 hl (k := 7) rfl (by rw [ez81]; rfl) (by decide) rfl (fun ls hl => ?_)
  refine lv_goto (tgt := 35) hx hb dX8_sets_82 (by decide) ?_
  exact hk35 x1 x2 x3 x4 x5 x6 z81 M hf H locs ls hw (lv_sub hl [1, 2, 3, 4, 5, 6, 7, 0] rfl)
set_option maxHeartbeats 4000000 in
set_option maxRecDepth 100000 in
theorem tX8_sets_62 {p : Program} {l : Launch} {e : Env} {s : State} {m : MethodId} {args : Array Value} {below : List Frame} {meth : Method} {c : Code} {E : EE} {b : Nat} {MC : Mem} {TC : Int64} {TM : Int64} {res : Int32} (X : CX E p s m args c cX8_sets 8 RX8) (hr : meth.sig.returnType = (some .int)) (hlk : meth.locks = false)   {k35 : Int32 → Int32 → Int32 → Int32 → Int32 → Int32 → Int32 → Mem → Option (Int32)} (hk35 : ∀ (x1 : Int32) (x2 : Int32) (x3 : Int32) (x4 : Int32) (x5 : Int32) (x6 : Int32) (x7 : Int32) (M : Mem), k35 x1 x2 x3 x4 x5 x6 x7 M = some res → ∀ (H : Heap) (locs : List Loc) (ls : Array Slot), WW E b MC TC M TM s H locs → lv_has ls 8 [(0, .ref (b + 197)), (1, .int x1), (2, .int x2), (3, .int x3), (4, .int x4), (5, .int x5), (6, .int x6), (7, .int x7)] → W p l e rmX8_sets s m args below meth c H locs 0 0 (MQ below (va_Qi (fun x (_ : Unit) => x = res) (fun _ t => PW E b MC TC M TM t) (AA b)) args s 0 0 (AA b)) (F0 m 35 ls [])) : ∀ (x1 : Int32) (x2 : Int32) (x3 : Int32) (x4 : Int32) (x6 : Int32) (x7 : Int32) (y0 : Int32) (M : Mem), gX8_sets_62 k35 x1 x2 x3 x4 x6 x7 y0 M = some res → ∀ (H : Heap) (locs : List Loc) (ls : Array Slot), WW E b MC TC M TM s H locs → lv_has ls 8 [(0, .ref (b + 197)), (1, .int x1), (2, .int x2), (3, .int x3), (4, .int x4), (6, .int x6), (7, .int x7)] → W p l e rmX8_sets s m args below meth c H locs 0 0 (MQ below (va_Qi (fun x (_ : Unit) => x = res) (fun _ t => PW E b MC TC M TM t) (AA b)) args s 0 0 (AA b)) (F0 m 62 ls [.int y0]) := by
  have hx := X.1
  have hb := X.2.1
  intro x1 x2 x3 x4 x6 x7 y0 M hf H locs ls hw hl
  rw [gX8_sets_62] at hf
  refine lv_istore (lv' := [(5, .int y0), (0, .ref (b + 197)), (1, .int x1), (2, .int x2), (3, .int x3), (4, .int x4), (6, .int x6), (7, .int x7)]) hx hb dX8_sets_62 hl (by decide) rfl (fun ls hl => ?_)
  refine lv_iload_n hx hb dX8_sets_64 rfl (lv_at hl 4 rfl) ?_
  refine lv_iload hx hb dX8_sets_65 (lv_at hl 7 rfl) ?_
  refine lv_iand hx hb dX8_sets_67 ?_
  refine lv_topi (fun z83 ez83 => ?_)
  replace hf := nmb hf ez83
  refine lv_istore_n (lv' := [(3, .int z83), (5, .int y0), (0, .ref (b + 197)), (1, .int x1), (2, .int x2), (4, .int x4), (6, .int x6), (7, .int x7)]) hx hb dX8_sets_68 rfl hl (by decide) rfl (fun ls hl => ?_)
  refine lv_iload hx hb dX8_sets_69 (lv_at hl 5 rfl) ?_
  refine lv_iload hx hb dX8_sets_71 (lv_at hl 7 rfl) ?_
  refine lv_ior hx hb dX8_sets_73 ?_
  refine lv_topi (fun z84 ez84 => ?_)
  replace hf := nmb hf ez84
  refine lv_istore (lv' := [(4, .int z84), (3, .int z83), (5, .int y0), (0, .ref (b + 197)), (1, .int x1), (2, .int x2), (6, .int x6), (7, .int x7)]) hx hb dX8_sets_74 hl (by decide) rfl (fun ls hl => ?_)
  obtain ⟨z85, ez85⟩ : ∃ y : Int32, y = x6 + 1 := ⟨_, rfl⟩
  replace hf := nmb hf ez85
  refine lv_iinc (v := z85) (lv' := [(6, .int z85), (4, .int z84), (3, .int z83), (5, .int y0), (0, .ref (b + 197)), (1, .int x1), (2, .int x2), (7, .int x7)]) hx hb dX8_sets_76 hl (k := 6) rfl (by rw [ez85]; rfl) (by decide) rfl (fun ls hl => ?_)
  exact tX8_sets_79 X hr hlk hk35 x1 x2 z83 z84 y0 z85 x7 M hf H locs ls hw (lv_sub hl [4, 5, 6, 2, 1, 3, 0, 7] rfl)
set_option maxHeartbeats 4000000 in
set_option maxRecDepth 100000 in
theorem tX8_sets_35 {p : Program} {l : Launch} {e : Env} {s : State} {m : MethodId} {args : Array Value} {below : List Frame} {meth : Method} {c : Code} {E : EE} {b : Nat} {MC : Mem} {TC : Int64} {TM : Int64} {res : Int32} (X : CX E p s m args c cX8_sets 8 RX8) (hr : meth.sig.returnType = (some .int)) (hlk : meth.locks = false)    : ∀ (n : Nat) (x1 : Int32) (x2 : Int32) (x3 : Int32) (x4 : Int32) (x5 : Int32) (x6 : Int32) (x7 : Int32) (M : Mem), gX8_sets_35 n x1 x2 x3 x4 x5 x6 x7 M = some res → ∀ (H : Heap) (locs : List Loc) (ls : Array Slot), WW E b MC TC M TM s H locs → lv_has ls 8 [(0, .ref (b + 197)), (1, .int x1), (2, .int x2), (3, .int x3), (4, .int x4), (5, .int x5), (6, .int x6), (7, .int x7)] → W p l e rmX8_sets s m args below meth c H locs 0 0 (MQ below (va_Qi (fun x (_ : Unit) => x = res) (fun _ t => PW E b MC TC M TM t) (AA b)) args s 0 0 (AA b)) (F0 m 35 ls []) := by
  have hx := X.1
  have hb := X.2.1
  intro n
  induction n with
  | zero =>
    intro x1 x2 x3 x4 x5 x6 x7 M hf
    cases (show (none : Option (Int32)) = some res from hf)
  | succ n ih =>
    intro x1 x2 x3 x4 x5 x6 x7 M hf H locs ls hw hl
    rw [gX8_sets_35] at hf
    refine lv_iload hx hb dX8_sets_35 (lv_at hl 7 rfl) ?_
    refine lv_iload_n hx hb dX8_sets_37 rfl (lv_at hl 2 rfl) ?_
    refine lv_icmp_gt (tgt := 85) hx hb dX8_sets_38 (by decide) (fun c72 => ?_) (fun c72 => ?_)
    · replace hf := (if_pos c72).symm.trans hf
      refine lv_iload_n hx hb dX8_sets_85 rfl (lv_at hl 1 rfl) ?_
      refine lv_if_eq (tgt := 94) hx hb dX8_sets_86 (by decide) (fun c73 => ?_) (fun c73 => ?_)
      · replace hf := (if_pos c73).symm.trans hf
        exact tX8_sets_94 X hr hlk x1 x6 M hf H locs ls hw (lv_sub hl [1, 6] rfl)
      · replace hf := (if_neg c73).symm.trans hf
        refine lv_iload hx hb dX8_sets_89 (lv_at hl 6 rfl) ?_
        refine lv_if_ne (tgt := 106) hx hb dX8_sets_91 (by decide) (fun c75 => ?_) (fun c75 => ?_)
        · replace hf := (if_neg c75).symm.trans hf
          refine lv_iload_n hx hb dX8_sets_106 rfl (lv_at hl 1 rfl) ?_
          refine lv_iconst (v := 1) hx hb dX8_sets_107 (by decide) ?_
          refine lv_icmp_ne (tgt := 116) hx hb dX8_sets_108 (by decide) (fun c76 => ?_) (fun c76 => ?_)
          · replace hf := (if_neg c76).symm.trans hf
            refine lv_iload_n hx hb dX8_sets_116 rfl (lv_at hl 1 rfl) ?_
            refine lv_iconst (v := 2) hx hb dX8_sets_117 (by decide) ?_
            refine lv_icmp_ne (tgt := 125) hx hb dX8_sets_118 (by decide) (fun c77 => ?_) (fun c77 => ?_)
            · replace hf := (if_neg c77).symm.trans hf
              refine lv_iload_n hx hb dX8_sets_125 rfl (lv_at hl 2 rfl) ?_
              refine lv_iload hx hb dX8_sets_126 (lv_at hl 4 rfl) ?_
              refine lv_iconst (v := (-1)) hx hb dX8_sets_128 (by decide) ?_
              refine lv_ixor hx hb dX8_sets_129 ?_
              refine lv_iand hx hb dX8_sets_130 ?_
              exact tX8_sets_131 X hr hlk (x2 &&& (x4 ^^^ ((-1)))) M hf H locs ls hw (lv_sub hl [] rfl)
            · replace hf := (if_pos c77).symm.trans hf
              refine lv_iload_n hx hb dX8_sets_121 rfl (lv_at hl 3 rfl) ?_
              refine lv_goto (tgt := 131) hx hb dX8_sets_122 (by decide) ?_
              exact tX8_sets_131 X hr hlk x3 M hf H locs ls hw (lv_sub hl [] rfl)
          · replace hf := (if_pos c76).symm.trans hf
            refine lv_iload hx hb dX8_sets_111 (lv_at hl 5 rfl) ?_
            refine lv_goto (tgt := 131) hx hb dX8_sets_113 (by decide) ?_
            exact tX8_sets_131 X hr hlk x5 M hf H locs ls hw (lv_sub hl [] rfl)
        · replace hf := (if_pos c75).symm.trans hf
          exact tX8_sets_94 X hr hlk x1 x6 M hf H locs ls hw (lv_sub hl [1, 6] rfl)
    · replace hf := (if_neg c72).symm.trans hf
      refine lv_aload_n hx hb dX8_sets_41 rfl (lv_at hl 0 rfl) ?_
      refine lv_iload hx hb dX8_sets_42 (lv_at hl 7 rfl) ?_
      obtain ⟨u78, q79, hf⟩ := ob hf
      refine cVi (As := [.int x7]) X hw (ctX8_isHeard l E b  q79) ⟨mw_1011, mw_1013, mw_50, mw_61, mw_1014⟩ hd_X8_isHeard ⟨Nat.le_of_ble_eq_true rfl, Nat.le_of_ble_eq_true rfl, rfl, rfl⟩ (kdk kk_197 (by decide)) (ce_X8 E _ _ _ _ kk_197) (show vwCl[8]? = some (RX8, TX8, 31) from rfl) rfl hl.1 rfl (Nat.le_of_ble_eq_true rfl) dX8_sets_44 (fun H locs hw => ?_)
      refine lv_if_eq (tgt := 79) hx hb dX8_sets_47 (by decide) (fun c80 => ?_) (fun c80 => ?_)
      · replace hf := (if_pos c80).symm.trans hf
        exact tX8_sets_79 X hr hlk ih x1 x2 x3 x4 x5 x6 x7 M hf H locs ls hw (lv_sub hl [0, 1, 2, 3, 4, 5, 6, 7] rfl)
      · replace hf := (if_neg c80).symm.trans hf
        refine lv_iload hx hb dX8_sets_50 (lv_at hl 6 rfl) ?_
        refine lv_if_ne (tgt := 60) hx hb dX8_sets_52 (by decide) (fun c82 => ?_) (fun c82 => ?_)
        · replace hf := (if_neg c82).symm.trans hf
          refine lv_iload hx hb dX8_sets_60 (lv_at hl 5 rfl) ?_
          exact tX8_sets_62 X hr hlk ih x1 x2 x3 x4 x6 x7 x5 M hf H locs ls hw (lv_sub hl [0, 1, 2, 3, 4, 6, 7] rfl)
        · replace hf := (if_pos c82).symm.trans hf
          refine lv_iload hx hb dX8_sets_55 (lv_at hl 7 rfl) ?_
          refine lv_goto (tgt := 62) hx hb dX8_sets_57 (by decide) ?_
          exact tX8_sets_62 X hr hlk ih x1 x2 x3 x4 x6 x7 x7 M hf H locs ls hw (lv_sub hl [0, 1, 2, 3, 4, 6, 7] rfl)
set_option maxHeartbeats 4000000 in
set_option maxRecDepth 100000 in
theorem ctX8_sets (l : Launch) (E : EE) (b : Nat) {MC : Mem} {TC : Int64} {TM : Int64} {x1 : Int32} {M : Mem} {res : Int32}  (hf : gX8_sets x1 M = some res) : MetI l E b yX8_sets (.code yX8_sets cX8_sets 8 (some .int)) rmX8_sets [.ref (b + 197), .int x1] MC TC M TM res MC TC M TM := by
  refine Met.ofW (cc := cX8_sets) (maxL := 8) (ret := (some .int)) (by decide) rfl ?_
  intro p e s m args below meth c s₁ B hml hv
  obtain ⟨rfl, hP, hK⟩ := hv
  have hx := B.exec
  have hb := B.bytes
  have X : CX E p s m _ c cX8_sets 8 RX8 := ⟨hx, hb, hml, findClass_of_methodNamed B.named, fun w h => atoms_spec (ws := _ :: wt) B.pre w (List.mem_cons_of_mem _ h), hK⟩
  have hr := B.returns
  have hlk := B.notSynchronized
  have hw : WW E b MC TC M TM s s.heap [] := ⟨hP, va_S.rf⟩
  have hl := lv_entry ([.ref (b + 197), .int x1]) (n := 8) (Nat.le_of_ble_eq_true rfl)
  rw [lg_entry_eq]
  generalize (lg_sl ([.ref (b + 197), .int x1]) ++ List.replicate (8 - (lg_sl ([.ref (b + 197), .int x1])).length) Slot.unset).toArray = ls at hl ⊢
  have hl : lv_has ls 8 [(0, .ref (b + 197)), (1, .int x1)] := hl
  obtain ⟨H, hH⟩ : ∃ H, H = s.heap := ⟨_, rfl⟩
  obtain ⟨locs, hL⟩ : ∃ L : List Loc, L = [] := ⟨_, rfl⟩
  rw [← hH, ← hL] at hw
  suffices hg : W p l e rmX8_sets s m _ below meth c H locs 0 0 (MQ below (va_Qi (fun x (_ : Unit) => x = res) (fun _ t => PW E b MC TC M TM t) (AA b)) _ s 0 0 (AA b)) (F0 m 0 ls []) by rw [hH, hL] at hg; exact hg
  clear hH hL
  rw [gX8_sets] at hf
  refine lv_iload_n hx hb dX8_sets_0 rfl (lv_at hl 1 rfl) ?_
  refine lv_iconst (v := 0) hx hb dX8_sets_1 (by decide) ?_
  refine lv_iconst (v := 3) hx hb dX8_sets_2 (by decide) ?_
  obtain ⟨u68, q69, hf⟩ := ob hf
  refine cSi (As := [.int x1, .int 0, .int 3]) X hw (ctX8_in l E b  q69) ⟨mw_819, mw_820, mw_61, mw_821⟩ hd_X8_in ⟨Nat.le_of_ble_eq_true rfl, Nat.le_of_ble_eq_true rfl, rfl, rfl⟩ rfl hl.1 rfl (Nat.le_of_ble_eq_true rfl) dX8_sets_3 (fun H locs hw => ?_)
  refine lv_if_ne (tgt := 11) hx hb dX8_sets_6 (by decide) (fun c70 => ?_) (fun c70 => ?_)
  · replace hf := (if_neg c70).symm.trans hf
    refine lv_iconst (v := 1) hx hb dX8_sets_11 (by decide) ?_
    refine lv_aload_n hx hb dX8_sets_12 rfl (lv_at hl 0 rfl) ?_
    refine gt_X8 X hw 0 kk_197 rfl (by decide) mw_721 rfl dX8_sets_13 ?_
    refine lv_ishl hx hb dX8_sets_16 ?_
    refine lv_iconst (v := 1) hx hb dX8_sets_17 (by decide) ?_
    refine lv_isub hx hb dX8_sets_18 ?_
    refine lv_topi (fun z71 ez71 => ?_)
    replace hf := nmb hf ez71
    refine lv_istore_n (lv' := [(2, .int z71), (0, .ref (b + 197)), (1, .int x1)]) hx hb dX8_sets_19 rfl hl (by decide) rfl (fun ls hl => ?_)
    refine lv_iload_n hx hb dX8_sets_20 rfl (lv_at hl 0 rfl) ?_
    refine lv_istore_n (lv' := [(3, .int z71), (2, .int z71), (0, .ref (b + 197)), (1, .int x1)]) hx hb dX8_sets_21 rfl hl (by decide) rfl (fun ls hl => ?_)
    refine lv_iconst (v := 0) hx hb dX8_sets_22 (by decide) ?_
    refine lv_istore (lv' := [(4, .int 0), (3, .int z71), (2, .int z71), (0, .ref (b + 197)), (1, .int x1)]) hx hb dX8_sets_23 hl (by decide) rfl (fun ls hl => ?_)
    refine lv_bipush (v := (-9)) hx hb dX8_sets_25 (by decide) ?_
    refine lv_istore (lv' := [(5, .int ((-9))), (4, .int 0), (3, .int z71), (2, .int z71), (0, .ref (b + 197)), (1, .int x1)]) hx hb dX8_sets_27 hl (by decide) rfl (fun ls hl => ?_)
    refine lv_iconst (v := 0) hx hb dX8_sets_29 (by decide) ?_
    refine lv_istore (lv' := [(6, .int 0), (5, .int ((-9))), (4, .int 0), (3, .int z71), (2, .int z71), (0, .ref (b + 197)), (1, .int x1)]) hx hb dX8_sets_30 hl (by decide) rfl (fun ls hl => ?_)
    refine lv_iconst (v := 0) hx hb dX8_sets_32 (by decide) ?_
    refine lv_istore (lv' := [(7, .int 0), (6, .int 0), (5, .int ((-9))), (4, .int 0), (3, .int z71), (2, .int z71), (0, .ref (b + 197)), (1, .int x1)]) hx hb dX8_sets_33 hl (by decide) rfl (fun ls hl => ?_)
    exact tX8_sets_35 X hr hlk FU x1 z71 z71 0 ((-9)) 0 0 M hf H locs ls hw (lv_sub hl [6, 7, 5, 4, 3, 2, 1, 0] rfl)
  · replace hf := (if_pos c70).symm.trans hf
    refine lv_iconst (v := (-1)) hx hb dX8_sets_9 (by decide) ?_
    replace hf := Option.some.inj hf
    subst hf
    exact eI X hw hr hlk dX8_sets_10

abbrev rmX8_forget : Room := { frames := 0, cells := 0, slots := 0, locals := 0 }
theorem hd_X8_forget : Hd yX8_forget RX8 0 := by decide +kernel
def gX8_forget (M : Mem) : Option (Int32 × Mem) := (some ((M 197 8) + (M 197 10))).bind fun z86 => (some (us M 197 8 0)).bind fun M87 => (some (us M87 197 10 0)).bind fun M88 => some (z86, M88)
set_option maxHeartbeats 4000000 in
set_option maxRecDepth 100000 in
theorem ctX8_forget (l : Launch) (E : EE) (b : Nat) {MC : Mem} {TC : Int64} {TM : Int64} {M : Mem} {res : Int32 × Mem}  (hf : gX8_forget M = some res) : MetI l E b yX8_forget (.code yX8_forget cX8_forget 2 (some .int)) rmX8_forget [.ref (b + 197)] MC TC M TM res.1 MC TC res.2 TM := by
  refine Met.ofW (cc := cX8_forget) (maxL := 2) (ret := (some .int)) (by decide) rfl ?_
  intro p e s m args below meth c s₁ B hml hv
  obtain ⟨rfl, hP, hK⟩ := hv
  have hx := B.exec
  have hb := B.bytes
  have X : CX E p s m _ c cX8_forget 2 RX8 := ⟨hx, hb, hml, findClass_of_methodNamed B.named, fun w h => atoms_spec (ws := _ :: wt) B.pre w (List.mem_cons_of_mem _ h), hK⟩
  have hr := B.returns
  have hlk := B.notSynchronized
  have hw : WW E b MC TC M TM s s.heap [] := ⟨hP, va_S.rf⟩
  have hl := lv_entry ([.ref (b + 197)]) (n := 2) (Nat.le_of_ble_eq_true rfl)
  rw [lg_entry_eq]
  generalize (lg_sl ([.ref (b + 197)]) ++ List.replicate (2 - (lg_sl ([.ref (b + 197)])).length) Slot.unset).toArray = ls at hl ⊢
  have hl : lv_has ls 2 [(0, .ref (b + 197))] := hl
  obtain ⟨H, hH⟩ : ∃ H, H = s.heap := ⟨_, rfl⟩
  obtain ⟨locs, hL⟩ : ∃ L : List Loc, L = [] := ⟨_, rfl⟩
  rw [← hH, ← hL] at hw
  suffices hg : W p l e rmX8_forget s m _ below meth c H locs 0 0 (MQ below (va_Qi (fun x (_ : Unit) => x = res.1) (fun _ t => PW E b MC TC res.2 TM t) (AA b)) _ s 0 0 (AA b)) (F0 m 0 ls []) by rw [hH, hL] at hg; exact hg
  clear hH hL
  rw [gX8_forget] at hf
  refine lv_aload_n hx hb dX8_forget_0 rfl (lv_at hl 0 rfl) ?_
  refine gt_X8 X hw 8 kk_197 rfl (by decide) mw_729 rfl dX8_forget_1 ?_
  refine lv_aload_n hx hb dX8_forget_4 rfl (lv_at hl 0 rfl) ?_
  refine gt_X8 X hw 10 kk_197 rfl (by decide) mw_731 rfl dX8_forget_5 ?_
  refine lv_iadd hx hb dX8_forget_8 ?_
  refine lv_topi (fun z86 ez86 => ?_)
  replace hf := nmb hf ez86
  refine lv_istore_n (lv' := [(1, .int z86), (0, .ref (b + 197))]) hx hb dX8_forget_9 rfl hl (by decide) rfl (fun ls hl => ?_)
  refine lv_aload_n hx hb dX8_forget_10 rfl (lv_at hl 1 rfl) ?_
  refine lv_iconst (v := 0) hx hb dX8_forget_11 (by decide) ?_
  obtain ⟨M87, eM87, hf⟩ := ob hf
  refine pt_X8_8 X hw kk_197 mw_729 dX8_forget_12 (fun H locs hw => ?_)
  rw [Option.some.inj eM87] at hw
  refine lv_aload_n hx hb dX8_forget_15 rfl (lv_at hl 1 rfl) ?_
  refine lv_iconst (v := 0) hx hb dX8_forget_16 (by decide) ?_
  obtain ⟨M88, eM88, hf⟩ := ob hf
  refine pt_X8_10 X hw kk_197 mw_731 dX8_forget_17 (fun H locs hw => ?_)
  rw [Option.some.inj eM88] at hw
  refine lv_iload_n hx hb dX8_forget_20 rfl (lv_at hl 0 rfl) ?_
  replace hf := Option.some.inj hf
  subst hf
  exact eI X hw hr hlk dX8_forget_21

abbrev rmX8_mark : Room := { frames := 2, cells := 0, slots := 0, locals := 43 }
theorem hd_X8_mark : Hd yX8_mark RX8 2 := by decide +kernel
def gX8_mark_17   (M : Mem) (T : Int64) : Option (Int32 × Int64) := some ((-1000000), T)
def gX8_mark_46   (x1 : Int32) (x2 : Int32) (x3 : Int32) (y0 : Int32) (y1 : Int32) (M : Mem) (T : Int64) : Option (Int32 × Int64) := (some (y1 + y0)).bind fun z100 => (ldA 5 (M 198) x2).bind fun v101 => (some (x3 - v101)).bind fun z103 => if x1 = 1 then ((some (T + 11)).bind fun T105 => some (z100, T105)) else (if x1 = 2 then ((some (T + 101)).bind fun T107 => some (z103, T107)) else (if x1 = 3 then ((some (T + 1011)).bind fun T109 => some (2 * z100, T109)) else (if x1 = 4 then ((some (T + 10101)).bind fun T111 => some (z103 + x2, T111)) else (if x1 = 5 then ((some (T + 100001)).bind fun T113 => (ldA 1233 (M 201) 0).bind fun v114 => some (x3 + v114, T113)) else ((some (T + 1)).bind fun T116 => some (x3, T116))))))
def gX8_mark (x1 : Int32) (x2 : Int32) (M : Mem) (T : Int64) : Option (Int32 × Int64) := (gX8_in x1 0 5).bind fun u89 => if u89 = 0 then (gX8_mark_17 M T) else ((gX8_isOne x2 M).bind fun u92 => if u92 = 0 then (gX8_mark_17 M T) else ((ldA 1233 (M 201) (2 + x2)).bind fun v95 => if v95 = 0 then (gX8_mark_46 x1 x2 v95 ((-1)) v95 M T) else ((gX8_layerOf x2 (v95 - 1) M).bind fun u98 => gX8_mark_46 x1 x2 v95 u98 v95 M T)))
set_option maxHeartbeats 4000000 in
set_option maxRecDepth 100000 in
theorem tX8_mark_17 {p : Program} {l : Launch} {e : Env} {s : State} {m : MethodId} {args : Array Value} {below : List Frame} {meth : Method} {c : Code} {E : EE} {b : Nat} {MC : Mem} {TC : Int64} {res : Int32 × Int64} (X : CX E p s m args c cX8_mark 6 RX8) (hr : meth.sig.returnType = (some .int)) (hlk : meth.locks = false)    : ∀ (M : Mem) (T : Int64), gX8_mark_17 M T = some res → ∀ (H : Heap) (locs : List Loc) (ls : Array Slot), WW E b MC TC M T s H locs → lv_has ls 6 [] → W p l e rmX8_mark s m args below meth c H locs 0 0 (MQ below (va_Qi (fun x (_ : Unit) => x = res.1) (fun _ t => PW E b MC TC M res.2 t) (AA b)) args s 0 0 (AA b)) (F0 m 17 ls []) := by
  have hx := X.1
  have hb := X.2.1
  intro M T hf H locs ls hw hl
  rw [gX8_mark_17] at hf
  refine lv_ldc (v := (-1000000)) hx hb X.2.2.2.1 (X.2.2.2.2.1 _ mw_1023) dX8_mark_17 ?_
  replace hf := Option.some.inj hf
  subst hf
  exact eI X hw hr hlk dX8_mark_19
set_option maxHeartbeats 4000000 in
set_option maxRecDepth 100000 in
theorem tX8_mark_46 {p : Program} {l : Launch} {e : Env} {s : State} {m : MethodId} {args : Array Value} {below : List Frame} {meth : Method} {c : Code} {E : EE} {b : Nat} {MC : Mem} {TC : Int64} {res : Int32 × Int64} (X : CX E p s m args c cX8_mark 6 RX8) (hr : meth.sig.returnType = (some .int)) (hlk : meth.locks = false)    : ∀ (x1 : Int32) (x2 : Int32) (x3 : Int32) (y0 : Int32) (y1 : Int32) (M : Mem) (T : Int64), gX8_mark_46 x1 x2 x3 y0 y1 M T = some res → ∀ (H : Heap) (locs : List Loc) (ls : Array Slot), WW E b MC TC M T s H locs → lv_has ls 6 [(0, .ref (b + 197)), (1, .int x1), (2, .int x2), (3, .int x3)] → W p l e rmX8_mark s m args below meth c H locs 0 0 (MQ below (va_Qi (fun x (_ : Unit) => x = res.1) (fun _ t => PW E b MC TC M res.2 t) (AA b)) args s 0 0 (AA b)) (F0 m 46 ls [.int y0, .int y1]) := by
  have hx := X.1
  have hb := X.2.1
  intro x1 x2 x3 y0 y1 M T hf H locs ls hw hl
  rw [gX8_mark_46] at hf
  refine lv_iadd hx hb dX8_mark_46 ?_
  refine lv_topi (fun z100 ez100 => ?_)
  replace hf := nmb hf ez100
  refine lv_istore (lv' := [(4, .int z100), (0, .ref (b + 197)), (1, .int x1), (2, .int x2), (3, .int x3)]) hx hb dX8_mark_47 hl (by decide) rfl (fun ls hl => ?_)
  refine lv_iload_n hx hb dX8_mark_49 rfl (lv_at hl 4 rfl) ?_
  refine lv_aload_n hx hb dX8_mark_50 rfl (lv_at hl 1 rfl) ?_
  refine gt_X8 X hw 1 kk_197 rfl (by decide) mw_722 rfl dX8_mark_51 ?_
  refine lv_iload_n hx hb dX8_mark_54 rfl (lv_at hl 3 rfl) ?_
  obtain ⟨v101, q102, hf⟩ := ob hf
  refine aldM X hw kdv_198 q102 dX8_mark_55 ?_
  refine lv_isub hx hb dX8_mark_56 ?_
  refine lv_topi (fun z103 ez103 => ?_)
  replace hf := nmb hf ez103
  refine lv_istore (lv' := [(5, .int z103), (4, .int z100), (0, .ref (b + 197)), (1, .int x1), (2, .int x2), (3, .int x3)]) hx hb dX8_mark_57 hl (by decide) rfl (fun ls hl => ?_)
  refine lv_iload_n hx hb dX8_mark_59 rfl (lv_at hl 3 rfl) ?_
  by_cases c104 : x1 = 1
  · replace hf := (if_pos c104).symm.trans hf
    refine lv_tableIn (tgt := 96) (off := 36) hx hb dX8_mark_60 (by rw [c104]; decide) (by rw [c104]; decide) (by rw [c104]; rfl) (by decide) ?_
    refine lv_aload_n hx hb dX8_mark_96 rfl (lv_at hl 2 rfl) ?_
    refine lv_dup hx hb dX8_mark_97 rfl ?_
    refine gt_X8 X hw 12 kk_197 rfl (by decide) mw_733 rfl dX8_mark_98 ?_
    refine lv_ldc2 (v := 11) hx hb X.2.2.2.1 (X.2.2.2.2.1 _ mw_1024) dX8_mark_101 ?_
    refine lv_ladd hx hb dX8_mark_104 ?_
    refine pt_X8_12 X hw mw_733 dX8_mark_105 (fun H locs hw => ?_)
    obtain ⟨T105, eT105, hf⟩ := ob hf
    rw [Option.some.inj eT105] at hw
    refine lv_iload hx hb dX8_mark_108 (lv_at hl 1 rfl) ?_
    replace hf := Option.some.inj hf
    subst hf
    exact eI X hw hr hlk dX8_mark_110
  · replace hf := (if_neg c104).symm.trans hf
    by_cases c106 : x1 = 2
    · replace hf := (if_pos c106).symm.trans hf
      refine lv_tableIn (tgt := 111) (off := 51) hx hb dX8_mark_60 (by rw [c106]; decide) (by rw [c106]; decide) (by rw [c106]; rfl) (by decide) ?_
      refine lv_aload_n hx hb dX8_mark_111 rfl (lv_at hl 2 rfl) ?_
      refine lv_dup hx hb dX8_mark_112 rfl ?_
      refine gt_X8 X hw 12 kk_197 rfl (by decide) mw_733 rfl dX8_mark_113 ?_
      refine lv_ldc2 (v := 101) hx hb X.2.2.2.1 (X.2.2.2.2.1 _ mw_1025) dX8_mark_116 ?_
      refine lv_ladd hx hb dX8_mark_119 ?_
      refine pt_X8_12 X hw mw_733 dX8_mark_120 (fun H locs hw => ?_)
      obtain ⟨T107, eT107, hf⟩ := ob hf
      rw [Option.some.inj eT107] at hw
      refine lv_iload hx hb dX8_mark_123 (lv_at hl 0 rfl) ?_
      replace hf := Option.some.inj hf
      subst hf
      exact eI X hw hr hlk dX8_mark_125
    · replace hf := (if_neg c106).symm.trans hf
      by_cases c108 : x1 = 3
      · replace hf := (if_pos c108).symm.trans hf
        refine lv_tableIn (tgt := 126) (off := 66) hx hb dX8_mark_60 (by rw [c108]; decide) (by rw [c108]; decide) (by rw [c108]; rfl) (by decide) ?_
        refine lv_aload_n hx hb dX8_mark_126 rfl (lv_at hl 2 rfl) ?_
        refine lv_dup hx hb dX8_mark_127 rfl ?_
        refine gt_X8 X hw 12 kk_197 rfl (by decide) mw_733 rfl dX8_mark_128 ?_
        refine lv_ldc2 (v := 1011) hx hb X.2.2.2.1 (X.2.2.2.2.1 _ mw_1026) dX8_mark_131 ?_
        refine lv_ladd hx hb dX8_mark_134 ?_
        refine pt_X8_12 X hw mw_733 dX8_mark_135 (fun H locs hw => ?_)
        obtain ⟨T109, eT109, hf⟩ := ob hf
        rw [Option.some.inj eT109] at hw
        refine lv_iconst (v := 2) hx hb dX8_mark_138 (by decide) ?_
        refine lv_iload hx hb dX8_mark_139 (lv_at hl 1 rfl) ?_
        refine lv_imul hx hb dX8_mark_141 ?_
        replace hf := Option.some.inj hf
        subst hf
        exact eI X hw hr hlk dX8_mark_142
      · replace hf := (if_neg c108).symm.trans hf
        by_cases c110 : x1 = 4
        · replace hf := (if_pos c110).symm.trans hf
          refine lv_tableIn (tgt := 143) (off := 83) hx hb dX8_mark_60 (by rw [c110]; decide) (by rw [c110]; decide) (by rw [c110]; rfl) (by decide) ?_
          refine lv_aload_n hx hb dX8_mark_143 rfl (lv_at hl 2 rfl) ?_
          refine lv_dup hx hb dX8_mark_144 rfl ?_
          refine gt_X8 X hw 12 kk_197 rfl (by decide) mw_733 rfl dX8_mark_145 ?_
          refine lv_ldc2 (v := 10101) hx hb X.2.2.2.1 (X.2.2.2.2.1 _ mw_1027) dX8_mark_148 ?_
          refine lv_ladd hx hb dX8_mark_151 ?_
          refine pt_X8_12 X hw mw_733 dX8_mark_152 (fun H locs hw => ?_)
          obtain ⟨T111, eT111, hf⟩ := ob hf
          rw [Option.some.inj eT111] at hw
          refine lv_iload hx hb dX8_mark_155 (lv_at hl 0 rfl) ?_
          refine lv_iload_n hx hb dX8_mark_157 rfl (lv_at hl 4 rfl) ?_
          refine lv_iadd hx hb dX8_mark_158 ?_
          replace hf := Option.some.inj hf
          subst hf
          exact eI X hw hr hlk dX8_mark_159
        · replace hf := (if_neg c110).symm.trans hf
          by_cases c112 : x1 = 5
          · replace hf := (if_pos c112).symm.trans hf
            refine lv_tableIn (tgt := 160) (off := 100) hx hb dX8_mark_60 (by rw [c112]; decide) (by rw [c112]; decide) (by rw [c112]; rfl) (by decide) ?_
            refine lv_aload_n hx hb dX8_mark_160 rfl (lv_at hl 2 rfl) ?_
            refine lv_dup hx hb dX8_mark_161 rfl ?_
            refine gt_X8 X hw 12 kk_197 rfl (by decide) mw_733 rfl dX8_mark_162 ?_
            refine lv_ldc2 (v := 100001) hx hb X.2.2.2.1 (X.2.2.2.2.1 _ mw_1028) dX8_mark_165 ?_
            refine lv_ladd hx hb dX8_mark_168 ?_
            refine pt_X8_12 X hw mw_733 dX8_mark_169 (fun H locs hw => ?_)
            obtain ⟨T113, eT113, hf⟩ := ob hf
            rw [Option.some.inj eT113] at hw
            refine lv_iload_n hx hb dX8_mark_172 rfl (lv_at hl 5 rfl) ?_
            refine lv_aload_n hx hb dX8_mark_173 rfl (lv_at hl 2 rfl) ?_
            refine gt_X8 X hw 5 kk_197 rfl (by decide) mw_726 rfl dX8_mark_174 ?_
            refine lv_iconst (v := 0) hx hb dX8_mark_177 (by decide) ?_
            obtain ⟨v114, q115, hf⟩ := ob hf
            refine aldM X hw kdv_201 q115 dX8_mark_178 ?_
            refine lv_iadd hx hb dX8_mark_179 ?_
            replace hf := Option.some.inj hf
            subst hf
            exact eI X hw hr hlk dX8_mark_180
          · replace hf := (if_neg c112).symm.trans hf
            have nc104 : x1.toInt ≠ 1 := fun q => c104 (Int32.toInt_inj.mp (q.trans (by decide)))
            have nc106 : x1.toInt ≠ 2 := fun q => c106 (Int32.toInt_inj.mp (q.trans (by decide)))
            have nc108 : x1.toInt ≠ 3 := fun q => c108 (Int32.toInt_inj.mp (q.trans (by decide)))
            have nc110 : x1.toInt ≠ 4 := fun q => c110 (Int32.toInt_inj.mp (q.trans (by decide)))
            have nc112 : x1.toInt ≠ 5 := fun q => c112 (Int32.toInt_inj.mp (q.trans (by decide)))
            refine lv_tableOut (tgt := 181) hx hb dX8_mark_60 (by omega) (by decide) ?_
            refine lv_aload_n hx hb dX8_mark_181 rfl (lv_at hl 2 rfl) ?_
            refine lv_dup hx hb dX8_mark_182 rfl ?_
            refine gt_X8 X hw 12 kk_197 rfl (by decide) mw_733 rfl dX8_mark_183 ?_
            refine lv_lconst (v := 1) hx hb dX8_mark_186 (by decide) ?_
            refine lv_ladd hx hb dX8_mark_187 ?_
            refine pt_X8_12 X hw mw_733 dX8_mark_188 (fun H locs hw => ?_)
            obtain ⟨T116, eT116, hf⟩ := ob hf
            rw [Option.some.inj eT116] at hw
            refine lv_iload_n hx hb dX8_mark_191 rfl (lv_at hl 5 rfl) ?_
            replace hf := Option.some.inj hf
            subst hf
            exact eI X hw hr hlk dX8_mark_192
set_option maxHeartbeats 4000000 in
set_option maxRecDepth 100000 in
theorem ctX8_mark (l : Launch) (E : EE) (b : Nat) {MC : Mem} {TC : Int64} {x1 : Int32} {x2 : Int32} {M : Mem} {T : Int64} {res : Int32 × Int64}  (hf : gX8_mark x1 x2 M T = some res) : MetI l E b yX8_mark (.code yX8_mark cX8_mark 6 (some .int)) rmX8_mark [.ref (b + 197), .int x1, .int x2] MC TC M T res.1 MC TC M res.2 := by
  refine Met.ofW (cc := cX8_mark) (maxL := 6) (ret := (some .int)) (by decide) rfl ?_
  intro p e s m args below meth c s₁ B hml hv
  obtain ⟨rfl, hP, hK⟩ := hv
  have hx := B.exec
  have hb := B.bytes
  have X : CX E p s m _ c cX8_mark 6 RX8 := ⟨hx, hb, hml, findClass_of_methodNamed B.named, fun w h => atoms_spec (ws := _ :: wt) B.pre w (List.mem_cons_of_mem _ h), hK⟩
  have hr := B.returns
  have hlk := B.notSynchronized
  have hw : WW E b MC TC M T s s.heap [] := ⟨hP, va_S.rf⟩
  have hl := lv_entry ([.ref (b + 197), .int x1, .int x2]) (n := 6) (Nat.le_of_ble_eq_true rfl)
  rw [lg_entry_eq]
  generalize (lg_sl ([.ref (b + 197), .int x1, .int x2]) ++ List.replicate (6 - (lg_sl ([.ref (b + 197), .int x1, .int x2])).length) Slot.unset).toArray = ls at hl ⊢
  have hl : lv_has ls 6 [(0, .ref (b + 197)), (1, .int x1), (2, .int x2)] := hl
  obtain ⟨H, hH⟩ : ∃ H, H = s.heap := ⟨_, rfl⟩
  obtain ⟨locs, hL⟩ : ∃ L : List Loc, L = [] := ⟨_, rfl⟩
  rw [← hH, ← hL] at hw
  suffices hg : W p l e rmX8_mark s m _ below meth c H locs 0 0 (MQ below (va_Qi (fun x (_ : Unit) => x = res.1) (fun _ t => PW E b MC TC M res.2 t) (AA b)) _ s 0 0 (AA b)) (F0 m 0 ls []) by rw [hH, hL] at hg; exact hg
  clear hH hL
  rw [gX8_mark] at hf
  refine lv_iload_n hx hb dX8_mark_0 rfl (lv_at hl 1 rfl) ?_
  refine lv_iconst (v := 0) hx hb dX8_mark_1 (by decide) ?_
  refine lv_iconst (v := 5) hx hb dX8_mark_2 (by decide) ?_
  obtain ⟨u89, q90, hf⟩ := ob hf
  refine cSi (As := [.int x1, .int 0, .int 5]) X hw (ctX8_in l E b  q90) ⟨mw_819, mw_820, mw_61, mw_821⟩ hd_X8_in ⟨Nat.le_of_ble_eq_true rfl, Nat.le_of_ble_eq_true rfl, rfl, rfl⟩ rfl hl.1 rfl (Nat.le_of_ble_eq_true rfl) dX8_mark_3 (fun H locs hw => ?_)
  refine lv_if_eq (tgt := 17) hx hb dX8_mark_6 (by decide) (fun c91 => ?_) (fun c91 => ?_)
  · replace hf := (if_pos c91).symm.trans hf
    exact tX8_mark_17 X hr hlk M T hf H locs ls hw (lv_sub hl [] rfl)
  · replace hf := (if_neg c91).symm.trans hf
    refine lv_aload_n hx hb dX8_mark_9 rfl (lv_at hl 0 rfl) ?_
    refine lv_iload_n hx hb dX8_mark_10 rfl (lv_at hl 2 rfl) ?_
    obtain ⟨u92, q93, hf⟩ := ob hf
    refine cVi (As := [.int x2]) X hw (ctX8_isOne l E b  q93) ⟨mw_868, mw_870, mw_37, mw_61, mw_871⟩ hd_X8_isOne ⟨Nat.le_of_ble_eq_true rfl, Nat.le_of_ble_eq_true rfl, rfl, rfl⟩ (kdk kk_197 (by decide)) (ce_X8 E _ _ _ _ kk_197) (show vwCl[8]? = some (RX8, TX8, 31) from rfl) rfl hl.1 rfl (Nat.le_of_ble_eq_true rfl) dX8_mark_11 (fun H locs hw => ?_)
    refine lv_if_ne (tgt := 20) hx hb dX8_mark_14 (by decide) (fun c94 => ?_) (fun c94 => ?_)
    · replace hf := (if_neg c94).symm.trans hf
      refine lv_aload_n hx hb dX8_mark_20 rfl (lv_at hl 0 rfl) ?_
      refine gt_X8 X hw 5 kk_197 rfl (by decide) mw_726 rfl dX8_mark_21 ?_
      refine lv_iconst (v := 2) hx hb dX8_mark_24 (by decide) ?_
      refine lv_iload_n hx hb dX8_mark_25 rfl (lv_at hl 2 rfl) ?_
      refine lv_iadd hx hb dX8_mark_26 ?_
      obtain ⟨v95, q96, hf⟩ := ob hf
      refine aldM X hw kdv_201 q96 dX8_mark_27 ?_
      refine lv_istore_n (lv' := [(3, .int v95), (0, .ref (b + 197)), (1, .int x1), (2, .int x2)]) hx hb dX8_mark_28 rfl hl (by decide) rfl (fun ls hl => ?_)
      refine lv_iload_n hx hb dX8_mark_29 rfl (lv_at hl 0 rfl) ?_
      refine lv_iload_n hx hb dX8_mark_30 rfl (lv_at hl 0 rfl) ?_
      refine lv_if_ne (tgt := 38) hx hb dX8_mark_31 (by decide) (fun c97 => ?_) (fun c97 => ?_)
      · replace hf := (if_neg c97).symm.trans hf
        refine lv_aload_n hx hb dX8_mark_38 rfl (lv_at hl 1 rfl) ?_
        refine lv_iload_n hx hb dX8_mark_39 rfl (lv_at hl 3 rfl) ?_
        refine lv_iload_n hx hb dX8_mark_40 rfl (lv_at hl 0 rfl) ?_
        refine lv_iconst (v := 1) hx hb dX8_mark_41 (by decide) ?_
        refine lv_isub hx hb dX8_mark_42 ?_
        obtain ⟨u98, q99, hf⟩ := ob hf
        refine cVi (As := [.int x2, .int (v95 - 1)]) X hw (ctX8_layerOf l E b  q99) ⟨mw_876, mw_878, mw_39, mw_61, mw_879⟩ hd_X8_layerOf ⟨Nat.le_of_ble_eq_true rfl, Nat.le_of_ble_eq_true rfl, rfl, rfl⟩ (kdk kk_197 (by decide)) (ce_X8 E _ _ _ _ kk_197) (show vwCl[8]? = some (RX8, TX8, 31) from rfl) rfl hl.1 rfl (Nat.le_of_ble_eq_true rfl) dX8_mark_43 (fun H locs hw => ?_)
        exact tX8_mark_46 X hr hlk x1 x2 v95 u98 v95 M T hf H locs ls hw (lv_sub hl [1, 2, 3, 0] rfl)
      · replace hf := (if_pos c97).symm.trans hf
        refine lv_iconst (v := (-1)) hx hb dX8_mark_34 (by decide) ?_
        refine lv_goto (tgt := 46) hx hb dX8_mark_35 (by decide) ?_
        exact tX8_mark_46 X hr hlk x1 x2 v95 ((-1)) v95 M T hf H locs ls hw (lv_sub hl [1, 2, 3, 0] rfl)
    · replace hf := (if_pos c94).symm.trans hf
      exact tX8_mark_17 X hr hlk M T hf H locs ls hw (lv_sub hl [] rfl)
