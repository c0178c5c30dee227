abbrev rmX8_letterAt : Room := { frames := 0, cells := 0, slots := 0, locals := 0 }
theorem hd_X8_letterAt : Hd yX8_letterAt RX8 1 := by decide +kernel
def gX8_letterAt_18   (y0 : Int32) (M : Mem) : Option (Int32) := some (y0)
def gX8_letterAt (x1 : Int32) (M : Mem) : Option (Int32) := if (M 197 14) ≤ x1 then (gX8_letterAt_18 ((-1)) M) else ((ldA 120 (M 206) x1).bind fun v2 => gX8_letterAt_18 v2 M)
set_option maxHeartbeats 4000000 in
set_option maxRecDepth 100000 in
theorem tX8_letterAt_18 {p : Program} {l : Launch} {e : Env} {s : State} {m : MethodId} {args : Array Value} {below : List Frame} {meth : Method} {c : Code} {E : EE} {b : Nat} {MC : Mem} {TC : Int64} {TM : Int64} {res : Int32} (X : CX E p s m args c cX8_letterAt 2 RX8) (hr : meth.sig.returnType = (some .int)) (hlk : meth.locks = false)    : ∀ (y0 : Int32) (M : Mem), gX8_letterAt_18 y0 M = some res → ∀ (H : Heap) (locs : List Loc) (ls : Array Slot), WW E b MC TC M TM s H locs → lv_has ls 2 [] → W p l e rmX8_letterAt s m args below meth c H locs 0 0 (MQ below (va_Qi (fun x (_ : Unit) => x = res) (fun _ t => PW E b MC TC M TM t) (AA b)) args s 0 0 (AA b)) (F0 m 18 ls [.int y0]) := by
  have hx := X.1
  have hb := X.2.1
  intro y0 M hf H locs ls hw hl
  rw [gX8_letterAt_18] at hf
  replace hf := Option.some.inj hf
  subst hf
  exact eI X hw hr hlk dX8_letterAt_18
set_option maxHeartbeats 4000000 in
set_option maxRecDepth 100000 in
theorem ctX8_letterAt (l : Launch) (E : EE) (b : Nat) {MC : Mem} {TC : Int64} {TM : Int64} {x1 : Int32} {M : Mem} {res : Int32}  (hf : gX8_letterAt x1 M = some res) : MetI l E b yX8_letterAt (.code yX8_letterAt cX8_letterAt 2 (some .int)) rmX8_letterAt [.ref (b + 197), .int x1] MC TC M TM res MC TC M TM := by
  refine Met.ofW (cc := cX8_letterAt) (maxL := 2) (ret := (some .int)) (by decide) rfl ?_
  intro p e s m args below meth c s₁ B hml hv
  obtain ⟨rfl, hP, hK⟩ := hv
  have hx := B.exec
  have hb := B.bytes
  have X : CX E p s m _ c cX8_letterAt 2 RX8 := ⟨hx, hb, hml, findClass_of_methodNamed B.named, fun w h => atoms_spec (ws := _ :: wt) B.pre w (List.mem_cons_of_mem _ h), hK⟩
  have hr := B.returns
  have hlk := B.notSynchronized
  have hw : WW E b MC TC M TM s s.heap [] := ⟨hP, va_S.rf⟩
  have hl := lv_entry ([.ref (b + 197), .int x1]) (n := 2) (Nat.le_of_ble_eq_true rfl)
  rw [lg_entry_eq]
  generalize (lg_sl ([.ref (b + 197), .int x1]) ++ List.replicate (2 - (lg_sl ([.ref (b + 197), .int x1])).length) Slot.unset).toArray = ls at hl ⊢
  have hl : lv_has ls 2 [(0, .ref (b + 197)), (1, .int x1)] := hl
  obtain ⟨H, hH⟩ : ∃ H, H = s.heap := ⟨_, rfl⟩
  obtain ⟨locs, hL⟩ : ∃ L : List Loc, L = [] := ⟨_, rfl⟩
  rw [← hH, ← hL] at hw
  suffices hg : W p l e rmX8_letterAt s m _ below meth c H locs 0 0 (MQ below (va_Qi (fun x (_ : Unit) => x = res) (fun _ t => PW E b MC TC M TM t) (AA b)) _ s 0 0 (AA b)) (F0 m 0 ls []) by rw [hH, hL] at hg; exact hg
  clear hH hL
  rw [gX8_letterAt] at hf
  refine lv_iload_n hx hb dX8_letterAt_0 rfl (lv_at hl 1 rfl) ?_
  refine lv_aload_n hx hb dX8_letterAt_1 rfl (lv_at hl 0 rfl) ?_
  refine gt_X8 X hw 14 kk_197 rfl (by decide) mw_735 rfl dX8_letterAt_2 ?_
  refine lv_icmp_ge (tgt := 17) hx hb dX8_letterAt_5 (by decide) (fun c1 => ?_) (fun c1 => ?_)
  · replace hf := (if_pos c1).symm.trans hf
    refine lv_iconst (v := (-1)) hx hb dX8_letterAt_17 (by decide) ?_
    exact tX8_letterAt_18 X hr hlk ((-1)) M hf H locs ls hw (lv_sub hl [] rfl)
  · replace hf := (if_neg c1).symm.trans hf
    refine lv_aload_n hx hb dX8_letterAt_8 rfl (lv_at hl 0 rfl) ?_
    refine gt_X8 X hw 13 kk_197 rfl (by decide) mw_734 rfl dX8_letterAt_9 ?_
    refine lv_iload_n hx hb dX8_letterAt_12 rfl (lv_at hl 1 rfl) ?_
    obtain ⟨v2, q3, hf⟩ := ob hf
    refine aldM X hw kdv_206 q3 dX8_letterAt_13 ?_
    refine lv_goto (tgt := 18) hx hb dX8_letterAt_14 (by decide) ?_
    exact tX8_letterAt_18 X hr hlk v2 M hf H locs ls hw (lv_sub hl [] rfl)

abbrev rmX8_isFigure : Room := { frames := 1, cells := 0, slots := 0, locals := 22 }
theorem hd_X8_isFigure : Hd yX8_isFigure RX8 1 := by decide +kernel
def gX8_isFigure (x0 : Int32) : Option (Int32) := (gX8_in x0 48 57).bind fun u4 => (zr u4).bind fun v6 => some (v6)
set_option maxHeartbeats 4000000 in
set_option maxRecDepth 100000 in
theorem ctX8_isFigure (l : Launch) (E : EE) (b : Nat) {MC : Mem} {TC : Int64} {MM : Mem} {TM : Int64} {x0 : Int32} {res : Int32}  (hf : gX8_isFigure x0 = some res) : MetI l E b yX8_isFigure (.code yX8_isFigure cX8_isFigure 1 (some .boolean)) rmX8_isFigure [.int x0] MC TC MM TM res MC TC MM TM := by
  refine Met.ofW (cc := cX8_isFigure) (maxL := 1) (ret := (some .boolean)) (by decide) rfl ?_
  intro p e s m args below meth c s₁ B hml hv
  obtain ⟨rfl, hP, hK⟩ := hv
  have hx := B.exec
  have hb := B.bytes
  have X : CX E p s m _ c cX8_isFigure 1 RX8 := ⟨hx, hb, hml, findClass_of_methodNamed B.named, fun w h => atoms_spec (ws := _ :: wt) B.pre w (List.mem_cons_of_mem _ h), hK⟩
  have hr := B.returns
  have hlk := B.notSynchronized
  have hw : WW E b MC TC MM TM s s.heap [] := ⟨hP, va_S.rf⟩
  have hl := lv_entry ([.int x0]) (n := 1) (Nat.le_of_ble_eq_true rfl)
  rw [lg_entry_eq]
  generalize (lg_sl ([.int x0]) ++ List.replicate (1 - (lg_sl ([.int x0])).length) Slot.unset).toArray = ls at hl ⊢
  have hl : lv_has ls 1 [(0, .int x0)] := hl
  obtain ⟨H, hH⟩ : ∃ H, H = s.heap := ⟨_, rfl⟩
  obtain ⟨locs, hL⟩ : ∃ L : List Loc, L = [] := ⟨_, rfl⟩
  rw [← hH, ← hL] at hw
  suffices hg : W p l e rmX8_isFigure s m _ below meth c H locs 0 0 (MQ below (va_Qi (fun x (_ : Unit) => x = res) (fun _ t => PW E b MC TC MM TM t) (AA b)) _ s 0 0 (AA b)) (F0 m 0 ls []) by rw [hH, hL] at hg; exact hg
  clear hH hL
  rw [gX8_isFigure] at hf
  refine lv_iload_n hx hb dX8_isFigure_0 rfl (lv_at hl 0 rfl) ?_
  refine lv_bipush (v := 48) hx hb dX8_isFigure_1 (by decide) ?_
  refine lv_bipush (v := 57) hx hb dX8_isFigure_3 (by decide) ?_
  obtain ⟨u4, q5, hf⟩ := ob hf
  refine cSi (As := [.int x0, .int 48, .int 57]) X hw (ctX8_in l E b  q5) ⟨mw_819, mw_820, mw_61, mw_821⟩ hd_X8_in ⟨Nat.le_of_ble_eq_true rfl, Nat.le_of_ble_eq_true rfl, rfl, rfl⟩ rfl hl.1 rfl (Nat.le_of_ble_eq_true rfl) dX8_isFigure_5 (fun H locs hw => ?_)
  obtain ⟨v6, q7, hf⟩ := ob hf
  obtain ⟨eq7, q7⟩ := zr_s q7
  rw [eq7]
  replace hf := Option.some.inj hf
  subst hf
  exact eZ X hw q7 hr hlk dX8_isFigure_8

abbrev rmX8_isLetter : Room := { frames := 1, cells := 0, slots := 0, locals := 22 }
theorem hd_X8_isLetter : Hd yX8_isLetter RX8 1 := by decide +kernel
def gX8_isLetter (x0 : Int32) : Option (Int32) := (gX8_in x0 97 122).bind fun u8 => (zr u8).bind fun v10 => some (v10)
set_option maxHeartbeats 4000000 in
set_option maxRecDepth 100000 in
theorem ctX8_isLetter (l : Launch) (E : EE) (b : Nat) {MC : Mem} {TC : Int64} {MM : Mem} {TM : Int64} {x0 : Int32} {res : Int32}  (hf : gX8_isLetter x0 = some res) : MetI l E b yX8_isLetter (.code yX8_isLetter cX8_isLetter 1 (some .boolean)) rmX8_isLetter [.int x0] MC TC MM TM res MC TC MM TM := by
  refine Met.ofW (cc := cX8_isLetter) (maxL := 1) (ret := (some .boolean)) (by decide) rfl ?_
  intro p e s m args below meth c s₁ B hml hv
  obtain ⟨rfl, hP, hK⟩ := hv
  have hx := B.exec
  have hb := B.bytes
  have X : CX E p s m _ c cX8_isLetter 1 RX8 := ⟨hx, hb, hml, findClass_of_methodNamed B.named, fun w h => atoms_spec (ws := _ :: wt) B.pre w (List.mem_cons_of_mem _ h), hK⟩
  have hr := B.returns
  have hlk := B.notSynchronized
  have hw : WW E b MC TC MM TM s s.heap [] := ⟨hP, va_S.rf⟩
  have hl := lv_entry ([.int x0]) (n := 1) (Nat.le_of_ble_eq_true rfl)
  rw [lg_entry_eq]
  generalize (lg_sl ([.int x0]) ++ List.replicate (1 - (lg_sl ([.int x0])).length) Slot.unset).toArray = ls at hl ⊢
  have hl : lv_has ls 1 [(0, .int x0)] := hl
  obtain ⟨H, hH⟩ : ∃ H, H = s.heap := ⟨_, rfl⟩
  obtain ⟨locs, hL⟩ : ∃ L : List Loc, L = [] := ⟨_, rfl⟩
  rw [← hH, ← hL] at hw
  suffices hg : W p l e rmX8_isLetter s m _ below meth c H locs 0 0 (MQ below (va_Qi (fun x (_ : Unit) => x = res) (fun _ t => PW E b MC TC MM TM t) (AA b)) _ s 0 0 (AA b)) (F0 m 0 ls []) by rw [hH, hL] at hg; exact hg
  clear hH hL
  rw [gX8_isLetter] at hf
  refine lv_iload_n hx hb dX8_isLetter_0 rfl (lv_at hl 0 rfl) ?_
  refine lv_bipush (v := 97) hx hb dX8_isLetter_1 (by decide) ?_
  refine lv_bipush (v := 122) hx hb dX8_isLetter_3 (by decide) ?_
  obtain ⟨u8, q9, hf⟩ := ob hf
  refine cSi (As := [.int x0, .int 97, .int 122]) X hw (ctX8_in l E b  q9) ⟨mw_819, mw_820, mw_61, mw_821⟩ hd_X8_in ⟨Nat.le_of_ble_eq_true rfl, Nat.le_of_ble_eq_true rfl, rfl, rfl⟩ rfl hl.1 rfl (Nat.le_of_ble_eq_true rfl) dX8_isLetter_5 (fun H locs hw => ?_)
  obtain ⟨v10, q11, hf⟩ := ob hf
  obtain ⟨eq11, q11⟩ := zr_s q11
  rw [eq11]
  replace hf := Option.some.inj hf
  subst hf
  exact eZ X hw q11 hr hlk dX8_isLetter_8

abbrev rmX8_next : Room := { frames := 2, cells := 0, slots := 0, locals := 42 }
theorem hd_X8_next : Hd yX8_next RX8 0 := by decide +kernel
def gX8_next_249   (y0 : Int32) (M : Mem) : Option (Mem) := (some (us M 197 17 y0)).bind fun M27 => (some (us M27 197 15 ((M27 197 15) + 1))).bind fun M28 => some (M28)
def gX8_next_231   (y0 : Int32) (M : Mem) : Option (Mem) := (some (us M 197 18 y0)).bind fun M36 => some (M36)
def gX8_next_180   : Nat → Int32 → Mem → Option (Mem)
  | 0, _, _ => none
  | n + 1, x1, M => (gX8_letterAt (M 197 15) M).bind fun u29 => (gX8_isLetter u29).bind fun u31 => if u31 = 0 then ((some (us M 197 17 1)).bind fun M34 => if ((M34 197 15) - (M34 197 16)) = 1 then (gX8_next_231 x1 M34) else (gX8_next_231 0 M34)) else ((some (us M 197 15 ((M 197 15) + 1))).bind fun M37 => (gX8_next_180 n) x1 M37)
def gX8_next_167   (y0 : Int32) (M : Mem) : Option (Mem) := (some (us M 197 17 y0)).bind fun M44 => some (M44)
def gX8_next_162   (M : Mem) : Option (Mem) := gX8_next_167 4 M
def gX8_next_166   (M : Mem) : Option (Mem) := gX8_next_167 2 M
def gX8_next_117  (k67 : Int32 → Mem → Option (Mem)) (x1 : Int32) (y0 : Int32) (M : Mem) : Option (Mem) := (some (us M 197 18 y0)).bind fun M50 => (some (us M50 197 15 ((M50 197 15) + 1))).bind fun M51 => k67 x1 M51
def gX8_next_67   : Nat → Int32 → Mem → Option (Mem)
  | 0, _, _ => none
  | n + 1, x1, M => (gX8_letterAt (M 197 15) M).bind fun u38 => (gX8_isFigure u38).bind fun u40 => if u40 = 0 then (if 99 < (M 197 18) then (gX8_next_162 M) else (if x1 = 48 then (if ((M 197 15) - (M 197 16)) ≤ 1 then (gX8_next_166 M) else (gX8_next_162 M)) else (gX8_next_166 M))) else (if (M 197 18) ≤ 99 then ((gX8_letterAt (M 197 15) M).bind fun u48 => gX8_next_117 (gX8_next_67 n) x1 (((10 * (M 197 18)) + u48) - 48) M) else (gX8_next_117 (gX8_next_67 n) x1 (M 197 18) M))
def gX8_next_0   : Nat → Mem → Option (Mem)
  | 0, _ => none
  | n + 1, M => (gX8_letterAt (M 197 15) M).bind fun u12 => if u12 = 32 then ((some (us M 197 15 ((M 197 15) + 1))).bind fun M53 => (gX8_next_0 n) M53) else ((some (us M 197 16 (M 197 15))).bind fun M15 => (gX8_letterAt (M15 197 15) M15).bind fun u16 => (some (us M15 197 18 0)).bind fun M18 => if 0 ≤ u16 then ((gX8_isFigure u16).bind fun u20 => if u20 = 0 then ((gX8_isLetter u16).bind fun u23 => if u23 = 0 then (if u16 = 59 then (gX8_next_249 3 M18) else (gX8_next_249 4 M18)) else (gX8_next_180 FU u16 M18)) else (gX8_next_67 FU u16 M18)) else ((some (us M18 197 17 0)).bind fun M52 => some (M52)))
def gX8_next (M : Mem) : Option (Mem) := gX8_next_0 FU M
set_option maxHeartbeats 4000000 in
set_option maxRecDepth 100000 in
theorem tX8_next_249 {p : Program} {l : Launch} {e : Env} {s : State} {m : MethodId} {args : Array Value} {below : List Frame} {meth : Method} {c : Code} {E : EE} {b : Nat} {MC : Mem} {TC : Int64} {TM : Int64} {res : Mem} (X : CX E p s m args c cX8_next 2 RX8) (hr : meth.sig.returnType = none) (hlk : meth.locks = false)    : ∀ (y0 : Int32) (M : Mem), gX8_next_249 y0 M = some res → ∀ (H : Heap) (locs : List Loc) (ls : Array Slot), WW E b MC TC M TM s H locs → lv_has ls 2 [(0, .ref (b + 197))] → W p l e rmX8_next s m args below meth c H locs 0 0 (MQ below (va_Qv (fun (_ : Unit) => True) (fun _ t => PW E b MC TC res TM t) (AA b)) args s 0 0 (AA b)) (F0 m 249 ls [.int y0, .ref (b + 197)]) := by
  have hx := X.1
  have hb := X.2.1
  intro y0 M hf H locs ls hw hl
  rw [gX8_next_249] at hf
  obtain ⟨M27, eM27, hf⟩ := ob hf
  refine pt_X8_17 X hw kk_197 mw_738 dX8_next_249 (fun H locs hw => ?_)
  rw [Option.some.inj eM27] at hw
  refine lv_aload_n hx hb dX8_next_252 rfl (lv_at hl 0 rfl) ?_
  refine lv_dup hx hb dX8_next_253 rfl ?_
  refine gt_X8 X hw 15 kk_197 rfl (by decide) mw_736 rfl dX8_next_254 ?_
  refine lv_iconst (v := 1) hx hb dX8_next_257 (by decide) ?_
  refine lv_iadd hx hb dX8_next_258 ?_
  obtain ⟨M28, eM28, hf⟩ := ob hf
  refine pt_X8_15 X hw kk_197 mw_736 dX8_next_259 (fun H locs hw => ?_)
  rw [Option.some.inj eM28] at hw
  replace hf := Option.some.inj hf
  subst hf
  exact eV X hw hr hlk dX8_next_262
set_option maxHeartbeats 4000000 in
set_option maxRecDepth 100000 in
theorem tX8_next_231 {p : Program} {l : Launch} {e : Env} {s : State} {m : MethodId} {args : Array Value} {below : List Frame} {meth : Method} {c : Code} {E : EE} {b : Nat} {MC : Mem} {TC : Int64} {TM : Int64} {res : Mem} (X : CX E p s m args c cX8_next 2 RX8) (hr : meth.sig.returnType = none) (hlk : meth.locks = false)    : ∀ (y0 : Int32) (M : Mem), gX8_next_231 y0 M = some res → ∀ (H : Heap) (locs : List Loc) (ls : Array Slot), WW E b MC TC M TM s H locs → lv_has ls 2 [] → W p l e rmX8_next s m args below meth c H locs 0 0 (MQ below (va_Qv (fun (_ : Unit) => True) (fun _ t => PW E b MC TC res TM t) (AA b)) args s 0 0 (AA b)) (F0 m 231 ls [.int y0, .ref (b + 197)]) := by
  have hx := X.1
  have hb := X.2.1
  intro y0 M hf H locs ls hw hl
  rw [gX8_next_231] at hf
  obtain ⟨M36, eM36, hf⟩ := ob hf
  refine pt_X8_18 X hw kk_197 mw_739 dX8_next_231 (fun H locs hw => ?_)
  rw [Option.some.inj eM36] at hw
  refine lv_goto (tgt := 262) hx hb dX8_next_234 (by decide) ?_
  replace hf := Option.some.inj hf
  subst hf
  exact eV X hw hr hlk dX8_next_262
set_option maxHeartbeats 4000000 in
set_option maxRecDepth 100000 in
theorem tX8_next_180 {p : Program} {l : Launch} {e : Env} {s : State} {m : MethodId} {args : Array Value} {below : List Frame} {meth : Method} {c : Code} {E : EE} {b : Nat} {MC : Mem} {TC : Int64} {TM : Int64} {res : Mem} (X : CX E p s m args c cX8_next 2 RX8) (hr : meth.sig.returnType = none) (hlk : meth.locks = false)    : ∀ (n : Nat) (x1 : Int32) (M : Mem), gX8_next_180 n x1 M = some res → ∀ (H : Heap) (locs : List Loc) (ls : Array Slot), WW E b MC TC M TM s H locs → lv_has ls 2 [(0, .ref (b + 197)), (1, .int x1)] → W p l e rmX8_next s m args below meth c H locs 0 0 (MQ below (va_Qv (fun (_ : Unit) => True) (fun _ t => PW E b MC TC res TM t) (AA b)) args s 0 0 (AA b)) (F0 m 180 ls []) := by
  have hx := X.1
  have hb := X.2.1
  intro n
  induction n with
  | zero =>
    intro x1 M hf
    cases (show (none : Option (Mem)) = some res from hf)
  | succ n ih =>
    intro x1 M hf H locs ls hw hl
    rw [gX8_next_180] at hf
    refine lv_aload_n hx hb dX8_next_180 rfl (lv_at hl 0 rfl) ?_
    refine lv_aload_n hx hb dX8_next_181 rfl (lv_at hl 0 rfl) ?_
    refine gt_X8 X hw 15 kk_197 rfl (by decide) mw_736 rfl dX8_next_182 ?_
    obtain ⟨u29, q30, hf⟩ := ob hf
    refine cVi (As := [.int (M 197 15)]) X hw (ctX8_letterAt l E b  q30) ⟨mw_834, mw_836, mw_31, mw_61, mw_837⟩ hd_X8_letterAt ⟨Nat.le_of_ble_eq_true rfl, Nat.le_of_ble_eq_true rfl, rfl, rfl⟩ (kdk kk_197 (by decide)) (ce_X8 E _ _ _ _ kk_197) (show vwCl[8]? = some (RX8, TX8, 31) from rfl) rfl hl.1 rfl (Nat.le_of_ble_eq_true rfl) dX8_next_185 (fun H locs hw => ?_)
    obtain ⟨u31, q32, hf⟩ := ob hf
    refine cSi (As := [.int u29]) X hw (ctX8_isLetter l E b  q32) ⟨mw_841, mw_842, mw_61, mw_843⟩ hd_X8_isLetter ⟨Nat.le_of_ble_eq_true rfl, Nat.le_of_ble_eq_true rfl, rfl, rfl⟩ rfl hl.1 rfl (Nat.le_of_ble_eq_true rfl) dX8_next_188 (fun H locs hw => ?_)
    refine lv_if_eq (tgt := 207) hx hb dX8_next_191 (by decide) (fun c33 => ?_) (fun c33 => ?_)
    · replace hf := (if_pos c33).symm.trans hf
      refine lv_aload_n hx hb dX8_next_207 rfl (lv_at hl 0 rfl) ?_
      refine lv_iconst (v := 1) hx hb dX8_next_208 (by decide) ?_
      obtain ⟨M34, eM34, hf⟩ := ob hf
      refine pt_X8_17 X hw kk_197 mw_738 dX8_next_209 (fun H locs hw => ?_)
      rw [Option.some.inj eM34] at hw
      refine lv_aload_n hx hb dX8_next_212 rfl (lv_at hl 0 rfl) ?_
      refine lv_aload_n hx hb dX8_next_213 rfl (lv_at hl 0 rfl) ?_
      refine gt_X8 X hw 15 kk_197 rfl (by decide) mw_736 rfl dX8_next_214 ?_
      refine lv_aload_n hx hb dX8_next_217 rfl (lv_at hl 0 rfl) ?_
      refine gt_X8 X hw 16 kk_197 rfl (by decide) mw_737 rfl dX8_next_218 ?_
      refine lv_isub hx hb dX8_next_221 ?_
      refine lv_iconst (v := 1) hx hb dX8_next_222 (by decide) ?_
      refine lv_icmp_ne (tgt := 230) hx hb dX8_next_223 (by decide) (fun c35 => ?_) (fun c35 => ?_)
      · replace hf := (if_neg c35).symm.trans hf
        refine lv_iconst (v := 0) hx hb dX8_next_230 (by decide) ?_
        exact tX8_next_231 X hr hlk 0 M34 hf H locs ls hw (lv_sub hl [] rfl)
      · replace hf := (if_pos c35).symm.trans hf
        refine lv_iload_n hx hb dX8_next_226 rfl (lv_at hl 1 rfl) ?_
        refine lv_goto (tgt := 231) hx hb dX8_next_227 (by decide) ?_
        exact tX8_next_231 X hr hlk x1 M34 hf H locs ls hw (lv_sub hl [] rfl)
    · replace hf := (if_neg c33).symm.trans hf
      refine lv_aload_n hx hb dX8_next_194 rfl (lv_at hl 0 rfl) ?_
      refine lv_dup hx hb dX8_next_195 rfl ?_
      refine gt_X8 X hw 15 kk_197 rfl (by decide) mw_736 rfl dX8_next_196 ?_
      refine lv_iconst (v := 1) hx hb dX8_next_199 (by decide) ?_
      refine lv_iadd hx hb dX8_next_200 ?_
      obtain ⟨M37, eM37, hf⟩ := ob hf
      refine pt_X8_15 X hw kk_197 mw_736 dX8_next_201 (fun H locs hw => ?_)
      rw [Option.some.inj eM37] at hw
      refine lv_goto (tgt := 180) hx hb dX8_next_204 (by decide) ?_
      exact ih x1 M37 hf H locs ls hw (lv_sub hl [0, 1] rfl)
set_option maxHeartbeats 4000000 in
set_option maxRecDepth 100000 in
theorem tX8_next_167 {p : Program} {l : Launch} {e : Env} {s : State} {m : MethodId} {args : Array Value} {below : List Frame} {meth : Method} {c : Code} {E : EE} {b : Nat} {MC : Mem} {TC : Int64} {TM : Int64} {res : Mem} (X : CX E p s m args c cX8_next 2 RX8) (hr : meth.sig.returnType = none) (hlk : meth.locks = false)    : ∀ (y0 : Int32) (M : Mem), gX8_next_167 y0 M = some res → ∀ (H : Heap) (locs : List Loc) (ls : Array Slot), WW E b MC TC M TM s H locs → lv_has ls 2 [] → W p l e rmX8_next s m args below meth c H locs 0 0 (MQ below (va_Qv (fun (_ : Unit) => True) (fun _ t => PW E b MC TC res TM t) (AA b)) args s 0 0 (AA b)) (F0 m 167 ls [.int y0, .ref (b + 197)]) := by
  have hx := X.1
  have hb := X.2.1
  intro y0 M hf H locs ls hw hl
  rw [gX8_next_167] at hf
  obtain ⟨M44, eM44, hf⟩ := ob hf
  refine pt_X8_17 X hw kk_197 mw_738 dX8_next_167 (fun H locs hw => ?_)
  rw [Option.some.inj eM44] at hw
  refine lv_goto (tgt := 262) hx hb dX8_next_170 (by decide) ?_
  replace hf := Option.some.inj hf
  subst hf
  exact eV X hw hr hlk dX8_next_262
set_option maxHeartbeats 4000000 in
set_option maxRecDepth 100000 in
theorem tX8_next_162 {p : Program} {l : Launch} {e : Env} {s : State} {m : MethodId} {args : Array Value} {below : List Frame} {meth : Method} {c : Code} {E : EE} {b : Nat} {MC : Mem} {TC : Int64} {TM : Int64} {res : Mem} (X : CX E p s m args c cX8_next 2 RX8) (hr : meth.sig.returnType = none) (hlk : meth.locks = false)    : ∀ (M : Mem), gX8_next_162 M = some res → ∀ (H : Heap) (locs : List Loc) (ls : Array Slot), WW E b MC TC M TM s H locs → lv_has ls 2 [] → W p l e rmX8_next s m args below meth c H locs 0 0 (MQ below (va_Qv (fun (_ : Unit) => True) (fun _ t => PW E b MC TC res TM t) (AA b)) args s 0 0 (AA b)) (F0 m 162 ls [.ref (b + 197)]) := by
  have hx := X.1
  have hb := X.2.1
  intro M hf H locs ls hw hl
  rw [gX8_next_162] at hf
  refine lv_iconst (v := 4) hx hb dX8_next_162 (by decide) ?_
  refine lv_goto (tgt := 167) hx hb dX8_next_163 (by decide) ?_
  exact tX8_next_167 X hr hlk 4 M hf H locs ls hw (lv_sub hl [] rfl)
set_option maxHeartbeats 4000000 in
set_option maxRecDepth 100000 in
theorem tX8_next_166 {p : Program} {l : Launch} {e : Env} {s : State} {m : MethodId} {args : Array Value} {below : List Frame} {meth : Method} {c : Code} {E : EE} {b : Nat} {MC : Mem} {TC : Int64} {TM : Int64} {res : Mem} (X : CX E p s m args c cX8_next 2 RX8) (hr : meth.sig.returnType = none) (hlk : meth.locks = false)    : ∀ (M : Mem), gX8_next_166 M = some res → ∀ (H : Heap) (locs : List Loc) (ls : Array Slot), WW E b MC TC M TM s H locs → lv_has ls 2 [] → W p l e rmX8_next s m args below meth c H locs 0 0 (MQ below (va_Qv (fun (_ : Unit) => True) (fun _ t => PW E b MC TC res TM t) (AA b)) args s 0 0 (AA b)) (F0 m 166 ls [.ref (b + 197)]) := by
  have hx := X.1
  have hb := X.2.1
  intro M hf H locs ls hw hl
  rw [gX8_next_166] at hf
  refine lv_iconst (v := 2) hx hb dX8_next_166 (by decide) ?_
  exact tX8_next_167 X hr hlk 2 M hf H locs ls hw (lv_sub hl [] rfl)
set_option maxHeartbeats 4000000 in
set_option maxRecDepth 100000 in
theorem tX8_next_117 {p : Program} {l : Launch} {e : Env} {s : State} {m : MethodId} {args : Array Value} {below : List Frame} {meth : Method} {c : Code} {E : EE} {b : Nat} {MC : Mem} {TC : Int64} {TM : Int64} {res : Mem} (X : CX E p s m args c cX8_next 2 RX8) (hr : meth.sig.returnType = none) (hlk : meth.locks = false)   {k67 : Int32 → Mem → Option (Mem)} (hk67 : ∀ (x1 : Int32) (M : Mem), k67 x1 M = some res → ∀ (H : Heap) (locs : List Loc) (ls : Array Slot), WW E b MC TC M TM s H locs → lv_has ls 2 [(0, .ref (b + 197)), (1, .int x1)] → W p l e rmX8_next s m args below meth c H locs 0 0 (MQ below (va_Qv (fun (_ : Unit) => True) (fun _ t => PW E b MC TC res TM t) (AA b)) args s 0 0 (AA b)) (F0 m 67 ls [])) : ∀ (x1 : Int32) (y0 : Int32) (M : Mem), gX8_next_117 k67 x1 y0 M = some res → ∀ (H : Heap) (locs : List Loc) (ls : Array Slot), WW E b MC TC M TM s H locs → lv_has ls 2 [(0, .ref (b + 197)), (1, .int x1)] → W p l e rmX8_next s m args below meth c H locs 0 0 (MQ below (va_Qv (fun (_ : Unit) => True) (fun _ t => PW E b MC TC res TM t) (AA b)) args s 0 0 (AA b)) (F0 m 117 ls [.int y0, .ref (b + 197)]) := by
  have hx := X.1
  have hb := X.2.1
  intro x1 y0 M hf H locs ls hw hl
  rw [gX8_next_117] at hf
  obtain ⟨M50, eM50, hf⟩ := ob hf
  refine pt_X8_18 X hw kk_197 mw_739 dX8_next_117 (fun H locs hw => ?_)
  rw [Option.some.inj eM50] at hw
  refine lv_aload_n hx hb dX8_next_120 rfl (lv_at hl 0 rfl) ?_
  refine lv_dup hx hb dX8_next_121 rfl ?_
  refine gt_X8 X hw 15 kk_197 rfl (by decide) mw_736 rfl dX8_next_122 ?_
  refine lv_iconst (v := 1) hx hb dX8_next_125 (by decide) ?_
  refine lv_iadd hx hb dX8_next_126 ?_
  obtain ⟨M51, eM51, hf⟩ := ob hf
  refine pt_X8_15 X hw kk_197 mw_736 dX8_next_127 (fun H locs hw => ?_)
  rw [Option.some.inj eM51] at hw
  refine lv_goto (tgt := 67) hx hb dX8_next_130 (by decide) ?_
  exact hk67 x1 M51 hf H locs ls hw (lv_sub hl [0, 1] rfl)
set_option maxHeartbeats 4000000 in
set_option maxRecDepth 100000 in
theorem tX8_next_67 {p : Program} {l : Launch} {e : Env} {s : State} {m : MethodId} {args : Array Value} {below : List Frame} {meth : Method} {c : Code} {E : EE} {b : Nat} {MC : Mem} {TC : Int64} {TM : Int64} {res : Mem} (X : CX E p s m args c cX8_next 2 RX8) (hr : meth.sig.returnType = none) (hlk : meth.locks = false)    : ∀ (n : Nat) (x1 : Int32) (M : Mem), gX8_next_67 n x1 M = some res → ∀ (H : Heap) (locs : List Loc) (ls : Array Slot), WW E b MC TC M TM s H locs → lv_has ls 2 [(0, .ref (b + 197)), (1, .int x1)] → W p l e rmX8_next s m args below meth c H locs 0 0 (MQ below (va_Qv (fun (_ : Unit) => True) (fun _ t => PW E b MC TC res TM t) (AA b)) args s 0 0 (AA b)) (F0 m 67 ls []) := by
  have hx := X.1
  have hb := X.2.1
  intro n
  induction n with
  | zero =>
    intro x1 M hf
    cases (show (none : Option (Mem)) = some res from hf)
  | succ n ih =>
    intro x1 M hf H locs ls hw hl
    rw [gX8_next_67] at hf
    refine lv_aload_n hx hb dX8_next_67 rfl (lv_at hl 0 rfl) ?_
    refine lv_aload_n hx hb dX8_next_68 rfl (lv_at hl 0 rfl) ?_
    refine gt_X8 X hw 15 kk_197 rfl (by decide) mw_736 rfl dX8_next_69 ?_
    obtain ⟨u38, q39, hf⟩ := ob hf
    refine cVi (As := [.int (M 197 15)]) X hw (ctX8_letterAt l E b  q39) ⟨mw_834, mw_836, mw_31, mw_61, mw_837⟩ hd_X8_letterAt ⟨Nat.le_of_ble_eq_true rfl, Nat.le_of_ble_eq_true rfl, rfl, rfl⟩ (kdk kk_197 (by decide)) (ce_X8 E _ _ _ _ kk_197) (show vwCl[8]? = some (RX8, TX8, 31) from rfl) rfl hl.1 rfl (Nat.le_of_ble_eq_true rfl) dX8_next_72 (fun H locs hw => ?_)
    obtain ⟨u40, q41, hf⟩ := ob hf
    refine cSi (As := [.int u38]) X hw (ctX8_isFigure l E b  q41) ⟨mw_838, mw_839, mw_61, mw_840⟩ hd_X8_isFigure ⟨Nat.le_of_ble_eq_true rfl, Nat.le_of_ble_eq_true rfl, rfl, rfl⟩ rfl hl.1 rfl (Nat.le_of_ble_eq_true rfl) dX8_next_75 (fun H locs hw => ?_)
    refine lv_if_eq (tgt := 133) hx hb dX8_next_78 (by decide) (fun c42 => ?_) (fun c42 => ?_)
    · replace hf := (if_pos c42).symm.trans hf
      refine lv_aload_n hx hb dX8_next_133 rfl (lv_at hl 0 rfl) ?_
      refine lv_aload_n hx hb dX8_next_134 rfl (lv_at hl 0 rfl) ?_
      refine gt_X8 X hw 18 kk_197 rfl (by decide) mw_739 rfl dX8_next_135 ?_
      refine lv_bipush (v := 99) hx hb dX8_next_138 (by decide) ?_
      refine lv_icmp_gt (tgt := 162) hx hb dX8_next_140 (by decide) (fun c43 => ?_) (fun c43 => ?_)
      · replace hf := (if_pos c43).symm.trans hf
        exact tX8_next_162 X hr hlk M hf H locs ls hw (lv_sub hl [] rfl)
      · replace hf := (if_neg c43).symm.trans hf
        refine lv_iload_n hx hb dX8_next_143 rfl (lv_at hl 1 rfl) ?_
        refine lv_bipush (v := 48) hx hb dX8_next_144 (by decide) ?_
        refine lv_icmp_ne (tgt := 166) hx hb dX8_next_146 (by decide) (fun c45 => ?_) (fun c45 => ?_)
        · replace hf := (if_neg c45).symm.trans hf
          exact tX8_next_166 X hr hlk M hf H locs ls hw (lv_sub hl [] rfl)
        · replace hf := (if_pos c45).symm.trans hf
          refine lv_aload_n hx hb dX8_next_149 rfl (lv_at hl 0 rfl) ?_
          refine gt_X8 X hw 15 kk_197 rfl (by decide) mw_736 rfl dX8_next_150 ?_
          refine lv_aload_n hx hb dX8_next_153 rfl (lv_at hl 0 rfl) ?_
          refine gt_X8 X hw 16 kk_197 rfl (by decide) mw_737 rfl dX8_next_154 ?_
          refine lv_isub hx hb dX8_next_157 ?_
          refine lv_iconst (v := 1) hx hb dX8_next_158 (by decide) ?_
          refine lv_icmp_le (tgt := 166) hx hb dX8_next_159 (by decide) (fun c46 => ?_) (fun c46 => ?_)
          · replace hf := (if_pos c46).symm.trans hf
            exact tX8_next_166 X hr hlk M hf H locs ls hw (lv_sub hl [] rfl)
          · replace hf := (if_neg c46).symm.trans hf
            exact tX8_next_162 X hr hlk M hf H locs ls hw (lv_sub hl [] rfl)
    · replace hf := (if_neg c42).symm.trans hf
      refine lv_aload_n hx hb dX8_next_81 rfl (lv_at hl 0 rfl) ?_
      refine lv_aload_n hx hb dX8_next_82 rfl (lv_at hl 0 rfl) ?_
      refine gt_X8 X hw 18 kk_197 rfl (by decide) mw_739 rfl dX8_next_83 ?_
      refine lv_bipush (v := 99) hx hb dX8_next_86 (by decide) ?_
      refine lv_icmp_le (tgt := 98) hx hb dX8_next_88 (by decide) (fun c47 => ?_) (fun c47 => ?_)
      · replace hf := (if_pos c47).symm.trans hf
        refine lv_bipush (v := 10) hx hb dX8_next_98 (by decide) ?_
        refine lv_aload_n hx hb dX8_next_100 rfl (lv_at hl 0 rfl) ?_
        refine gt_X8 X hw 18 kk_197 rfl (by decide) mw_739 rfl dX8_next_101 ?_
        refine lv_imul hx hb dX8_next_104 ?_
        refine lv_aload_n hx hb dX8_next_105 rfl (lv_at hl 0 rfl) ?_
        refine lv_aload_n hx hb dX8_next_106 rfl (lv_at hl 0 rfl) ?_
        refine gt_X8 X hw 15 kk_197 rfl (by decide) mw_736 rfl dX8_next_107 ?_
        obtain ⟨u48, q49, hf⟩ := ob hf
        refine cVi (As := [.int (M 197 15)]) X hw (ctX8_letterAt l E b  q49) ⟨mw_834, mw_836, mw_31, mw_61, mw_837⟩ hd_X8_letterAt ⟨Nat.le_of_ble_eq_true rfl, Nat.le_of_ble_eq_true rfl, rfl, rfl⟩ (kdk kk_197 (by decide)) (ce_X8 E _ _ _ _ kk_197) (show vwCl[8]? = some (RX8, TX8, 31) from rfl) rfl hl.1 rfl (Nat.le_of_ble_eq_true rfl) dX8_next_110 (fun H locs hw => ?_)
        refine lv_iadd hx hb dX8_next_113 ?_
        refine lv_bipush (v := 48) hx hb dX8_next_114 (by decide) ?_
        refine lv_isub hx hb dX8_next_116 ?_
        exact tX8_next_117 X hr hlk ih x1 (((10 * (M 197 18)) + u48) - 48) M hf H locs ls hw (lv_sub hl [0, 1] rfl)
      · replace hf := (if_neg c47).symm.trans hf
        refine lv_aload_n hx hb dX8_next_91 rfl (lv_at hl 0 rfl) ?_
        refine gt_X8 X hw 18 kk_197 rfl (by decide) mw_739 rfl dX8_next_92 ?_
        refine lv_goto (tgt := 117) hx hb dX8_next_95 (by decide) ?_
        exact tX8_next_117 X hr hlk ih x1 (M 197 18) M hf H locs ls hw (lv_sub hl [0, 1] rfl)
set_option maxHeartbeats 4000000 in
set_option maxRecDepth 100000 in
theorem tX8_next_0 {p : Program} {l : Launch} {e : Env} {s : State} {m : MethodId} {args : Array Value} {below : List Frame} {meth : Method} {c : Code} {E : EE} {b : Nat} {MC : Mem} {TC : Int64} {TM : Int64} {res : Mem} (X : CX E p s m args c cX8_next 2 RX8) (hr : meth.sig.returnType = none) (hlk : meth.locks = false)    : ∀ (n : Nat) (M : Mem), gX8_next_0 n M = some res → ∀ (H : Heap) (locs : List Loc) (ls : Array Slot), WW E b MC TC M TM s H locs → lv_has ls 2 [(0, .ref (b + 197))] → W p l e rmX8_next s m args below meth c H locs 0 0 (MQ below (va_Qv (fun (_ : Unit) => True) (fun _ t => PW E b MC TC res TM t) (AA b)) args s 0 0 (AA b)) (F0 m 0 ls []) := by
  have hx := X.1
  have hb := X.2.1
  intro n
  induction n with
  | zero =>
    intro M hf
    cases (show (none : Option (Mem)) = some res from hf)
  | succ n ih =>
    intro M hf H locs ls hw hl
    rw [gX8_next_0] at hf
    refine lv_aload_n hx hb dX8_next_0 rfl (lv_at hl 0 rfl) ?_
    refine lv_aload_n hx hb dX8_next_1 rfl (lv_at hl 0 rfl) ?_
    refine gt_X8 X hw 15 kk_197 rfl (by decide) mw_736 rfl dX8_next_2 ?_
    obtain ⟨u12, q13, hf⟩ := ob hf
    refine cVi (As := [.int (M 197 15)]) X hw (ctX8_letterAt l E b  q13) ⟨mw_834, mw_836, mw_31, mw_61, mw_837⟩ hd_X8_letterAt ⟨Nat.le_of_ble_eq_true rfl, Nat.le_of_ble_eq_true rfl, rfl, rfl⟩ (kdk kk_197 (by decide)) (ce_X8 E _ _ _ _ kk_197) (show vwCl[8]? = some (RX8, TX8, 31) from rfl) rfl hl.1 rfl (Nat.le_of_ble_eq_true rfl) dX8_next_5 (fun H locs hw => ?_)
    refine lv_bipush (v := 32) hx hb dX8_next_8 (by decide) ?_
    refine lv_icmp_ne (tgt := 26) hx hb dX8_next_10 (by decide) (fun c14 => ?_) (fun c14 => ?_)
    · replace hf := (if_neg c14).symm.trans hf
      refine lv_aload_n hx hb dX8_next_26 rfl (lv_at hl 0 rfl) ?_
      refine lv_aload_n hx hb dX8_next_27 rfl (lv_at hl 0 rfl) ?_
      refine gt_X8 X hw 15 kk_197 rfl (by decide) mw_736 rfl dX8_next_28 ?_
      obtain ⟨M15, eM15, hf⟩ := ob hf
      refine pt_X8_16 X hw kk_197 mw_737 dX8_next_31 (fun H locs hw => ?_)
      rw [Option.some.inj eM15] at hw
      refine lv_aload_n hx hb dX8_next_34 rfl (lv_at hl 0 rfl) ?_
      refine lv_aload_n hx hb dX8_next_35 rfl (lv_at hl 0 rfl) ?_
      refine gt_X8 X hw 15 kk_197 rfl (by decide) mw_736 rfl dX8_next_36 ?_
      obtain ⟨u16, q17, hf⟩ := ob hf
      refine cVi (As := [.int (M15 197 15)]) X hw (ctX8_letterAt l E b  q17) ⟨mw_834, mw_836, mw_31, mw_61, mw_837⟩ hd_X8_letterAt ⟨Nat.le_of_ble_eq_true rfl, Nat.le_of_ble_eq_true rfl, rfl, rfl⟩ (kdk kk_197 (by decide)) (ce_X8 E _ _ _ _ kk_197) (show vwCl[8]? = some (RX8, TX8, 31) from rfl) rfl hl.1 rfl (Nat.le_of_ble_eq_true rfl) dX8_next_39 (fun H locs hw => ?_)
      refine lv_istore_n (lv' := [(1, .int u16), (0, .ref (b + 197))]) hx hb dX8_next_42 rfl hl (by decide) rfl (fun ls hl => ?_)
      refine lv_aload_n hx hb dX8_next_43 rfl (lv_at hl 1 rfl) ?_
      refine lv_iconst (v := 0) hx hb dX8_next_44 (by decide) ?_
      obtain ⟨M18, eM18, hf⟩ := ob hf
      refine pt_X8_18 X hw kk_197 mw_739 dX8_next_45 (fun H locs hw => ?_)
      rw [Option.some.inj eM18] at hw
      refine lv_iload_n hx hb dX8_next_48 rfl (lv_at hl 0 rfl) ?_
      refine lv_if_ge (tgt := 60) hx hb dX8_next_49 (by decide) (fun c19 => ?_) (fun c19 => ?_)
      · replace hf := (if_pos c19).symm.trans hf
        refine lv_iload_n hx hb dX8_next_60 rfl (lv_at hl 0 rfl) ?_
        obtain ⟨u20, q21, hf⟩ := ob hf
        refine cSi (As := [.int u16]) X hw (ctX8_isFigure l E b  q21) ⟨mw_838, mw_839, mw_61, mw_840⟩ hd_X8_isFigure ⟨Nat.le_of_ble_eq_true rfl, Nat.le_of_ble_eq_true rfl, rfl, rfl⟩ rfl hl.1 rfl (Nat.le_of_ble_eq_true rfl) dX8_next_61 (fun H locs hw => ?_)
        refine lv_if_eq (tgt := 173) hx hb dX8_next_64 (by decide) (fun c22 => ?_) (fun c22 => ?_)
        · replace hf := (if_pos c22).symm.trans hf
          refine lv_iload_n hx hb dX8_next_173 rfl (lv_at hl 0 rfl) ?_
          obtain ⟨u23, q24, hf⟩ := ob hf
          refine cSi (As := [.int u16]) X hw (ctX8_isLetter l E b  q24) ⟨mw_841, mw_842, mw_61, mw_843⟩ hd_X8_isLetter ⟨Nat.le_of_ble_eq_true rfl, Nat.le_of_ble_eq_true rfl, rfl, rfl⟩ rfl hl.1 rfl (Nat.le_of_ble_eq_true rfl) dX8_next_174 (fun H locs hw => ?_)
          refine lv_if_eq (tgt := 237) hx hb dX8_next_177 (by decide) (fun c25 => ?_) (fun c25 => ?_)
          · replace hf := (if_pos c25).symm.trans hf
            refine lv_aload_n hx hb dX8_next_237 rfl (lv_at hl 1 rfl) ?_
            refine lv_iload_n hx hb dX8_next_238 rfl (lv_at hl 0 rfl) ?_
            refine lv_bipush (v := 59) hx hb dX8_next_239 (by decide) ?_
            refine lv_icmp_ne (tgt := 248) hx hb dX8_next_241 (by decide) (fun c26 => ?_) (fun c26 => ?_)
            · replace hf := (if_neg c26).symm.trans hf
              refine lv_iconst (v := 4) hx hb dX8_next_248 (by decide) ?_
              exact tX8_next_249 X hr hlk 4 M18 hf H locs ls hw (lv_sub hl [1] rfl)
            · replace hf := (if_pos c26).symm.trans hf
              refine lv_iconst (v := 3) hx hb dX8_next_244 (by decide) ?_
              refine lv_goto (tgt := 249) hx hb dX8_next_245 (by decide) ?_
              exact tX8_next_249 X hr hlk 3 M18 hf H locs ls hw (lv_sub hl [1] rfl)
          · replace hf := (if_neg c25).symm.trans hf
            exact tX8_next_180 X hr hlk FU u16 M18 hf H locs ls hw (lv_sub hl [1, 0] rfl)
        · replace hf := (if_neg c22).symm.trans hf
          exact tX8_next_67 X hr hlk FU u16 M18 hf H locs ls hw (lv_sub hl [1, 0] rfl)
      · replace hf := (if_neg c19).symm.trans hf
        refine lv_aload_n hx hb dX8_next_52 rfl (lv_at hl 1 rfl) ?_
        refine lv_iconst (v := 0) hx hb dX8_next_53 (by decide) ?_
        obtain ⟨M52, eM52, hf⟩ := ob hf
        refine pt_X8_17 X hw kk_197 mw_738 dX8_next_54 (fun H locs hw => ?_)
        rw [Option.some.inj eM52] at hw
        refine lv_goto (tgt := 262) hx hb dX8_next_57 (by decide) ?_
        replace hf := Option.some.inj hf
        subst hf
        exact eV X hw hr hlk dX8_next_262
    · replace hf := (if_pos c14).symm.trans hf
      refine lv_aload_n hx hb dX8_next_13 rfl (lv_at hl 0 rfl) ?_
      refine lv_dup hx hb dX8_next_14 rfl ?_
      refine gt_X8 X hw 15 kk_197 rfl (by decide) mw_736 rfl dX8_next_15 ?_
      refine lv_iconst (v := 1) hx hb dX8_next_18 (by decide) ?_
      refine lv_iadd hx hb dX8_next_19 ?_
      obtain ⟨M53, eM53, hf⟩ := ob hf
      refine pt_X8_15 X hw kk_197 mw_736 dX8_next_20 (fun H locs hw => ?_)
      rw [Option.some.inj eM53] at hw
      refine lv_goto (tgt := 0) hx hb dX8_next_23 (by decide) ?_
      exact ih M53 hf H locs ls hw (lv_sub hl [0] rfl)
set_option maxHeartbeats 4000000 in
set_option maxRecDepth 100000 in
theorem ctX8_next (l : Launch) (E : EE) (b : Nat) {MC : Mem} {TC : Int64} {TM : Int64} {M : Mem} {res : Mem}  (hf : gX8_next M = some res) : MetV l E b yX8_next (.code yX8_next cX8_next 2 none) rmX8_next [.ref (b + 197)] MC TC M TM MC TC res TM := by
  refine Met.ofW (cc := cX8_next) (maxL := 2) (ret := none) (by decide) rfl ?_
  intro p e s m args below meth c s₁ B hml hv
  obtain ⟨rfl, hP, hK⟩ := hv
  have hx := B.exec
  have hb := B.bytes
  have X : CX E p s m _ c cX8_next 2 RX8 := ⟨hx, hb, hml, findClass_of_methodNamed B.named, fun w h => atoms_spec (ws := _ :: wt) B.pre w (List.mem_cons_of_mem _ h), hK⟩
  have hr := B.returns
  have hlk := B.notSynchronized
  have hw : WW E b MC TC M TM s s.heap [] := ⟨hP, va_S.rf⟩
  have hl := lv_entry ([.ref (b + 197)]) (n := 2) (Nat.le_of_ble_eq_true rfl)
  rw [lg_entry_eq]
  generalize (lg_sl ([.ref (b + 197)]) ++ List.replicate (2 - (lg_sl ([.ref (b + 197)])).length) Slot.unset).toArray = ls at hl ⊢
  have hl : lv_has ls 2 [(0, .ref (b + 197))] := hl
  obtain ⟨H, hH⟩ : ∃ H, H = s.heap := ⟨_, rfl⟩
  obtain ⟨locs, hL⟩ : ∃ L : List Loc, L = [] := ⟨_, rfl⟩
  rw [← hH, ← hL] at hw
  suffices hg : W p l e rmX8_next s m _ below meth c H locs 0 0 (MQ below (va_Qv (fun (_ : Unit) => True) (fun _ t => PW E b MC TC res TM t) (AA b)) _ s 0 0 (AA b)) (F0 m 0 ls []) by rw [hH, hL] at hg; exact hg
  clear hH hL
  rw [gX8_next] at hf
  exact tX8_next_0 X hr hlk FU M hf H locs ls hw (lv_sub hl [0] rfl)

abbrev rmX8_takesNumber : Room := { frames := 3, cells := 0, slots := 0, locals := 63 }
theorem hd_X8_takesNumber : Hd yX8_takesNumber RX8 2 := by decide +kernel
def gX8_takesNumber_70   (y0 : Int32) (M : Mem) : Option (Int32 × Mem) := some (y0, M)
def gX8_takesNumber_60   (x3 : Int32) (x4 : Int32) (M : Mem) : Option (Int32 × Mem) := if x3 = 0 then (gX8_takesNumber_70 0 M) else (gX8_takesNumber_70 x4 M)
def gX8_takesNumber_43   (x3 : Int32) (y0 : Int32) (M : Mem) : Option (Int32 × Mem) := (pfZ M 197 19 y0).bind fun M56 => (some (M56 197 18)).bind fun z57 => if x3 = 0 then (gX8_takesNumber_60 x3 z57 M56) else ((gX8_next M56).bind fun u60 => gX8_takesNumber_60 x3 z57 u60)
def gX8_takesNumber_32   (y0 : Int32) (M : Mem) : Option (Int32 × Mem) := if y0 = 0 then (gX8_takesNumber_43 y0 1 M) else (gX8_takesNumber_43 y0 0 M)
def gX8_takesNumber_31   (M : Mem) : Option (Int32 × Mem) := gX8_takesNumber_32 0 M
def gX8_takesNumber (x1 : Int32) (x2 : Int32) (M : Mem) : Option (Int32 × Mem) := if (M 197 19) = 0 then (if (M 197 17) = 2 then ((gX8_in (M 197 18) x1 x2).bind fun u63 => if u63 = 0 then (gX8_takesNumber_31 M) else (gX8_takesNumber_32 1 M)) else (gX8_takesNumber_31 M)) else (gX8_takesNumber_31 M)
set_option maxHeartbeats 4000000 in
set_option maxRecDepth 100000 in
theorem tX8_takesNumber_70 {p : Program} {l : Launch} {e : Env} {s : State} {m : MethodId} {args : Array Value} {below : List Frame} {meth : Method} {c : Code} {E : EE} {b : Nat} {MC : Mem} {TC : Int64} {TM : Int64} {res : Int32 × Mem} (X : CX E p s m args c cX8_takesNumber 5 RX8) (hr : meth.sig.returnType = (some .int)) (hlk : meth.locks = false)    : ∀ (y0 : Int32) (M : Mem), gX8_takesNumber_70 y0 M = some res → ∀ (H : Heap) (locs : List Loc) (ls : Array Slot), WW E b MC TC M TM s H locs → lv_has ls 5 [] → W p l e rmX8_takesNumber s m args below meth c H locs 0 0 (MQ below (va_Qi (fun x (_ : Unit) => x = res.1) (fun _ t => PW E b MC TC res.2 TM t) (AA b)) args s 0 0 (AA b)) (F0 m 70 ls [.int y0]) := by
  have hx := X.1
  have hb := X.2.1
  intro y0 M hf H locs ls hw hl
  rw [gX8_takesNumber_70] at hf
  replace hf := Option.some.inj hf
  subst hf
  exact eI X hw hr hlk dX8_takesNumber_70
set_option maxHeartbeats 4000000 in
set_option maxRecDepth 100000 in
theorem tX8_takesNumber_60 {p : Program} {l : Launch} {e : Env} {s : State} {m : MethodId} {args : Array Value} {below : List Frame} {meth : Method} {c : Code} {E : EE} {b : Nat} {MC : Mem} {TC : Int64} {TM : Int64} {res : Int32 × Mem} (X : CX E p s m args c cX8_takesNumber 5 RX8) (hr : meth.sig.returnType = (some .int)) (hlk : meth.locks = false)    : ∀ (x3 : Int32) (x4 : Int32) (M : Mem), gX8_takesNumber_60 x3 x4 M = some res → ∀ (H : Heap) (locs : List Loc) (ls : Array Slot), WW E b MC TC M TM s H locs → lv_has ls 5 [(3, .int x3), (4, .int x4)] → W p l e rmX8_takesNumber s m args below meth c H locs 0 0 (MQ below (va_Qi (fun x (_ : Unit) => x = res.1) (fun _ t => PW E b MC TC res.2 TM t) (AA b)) args s 0 0 (AA b)) (F0 m 60 ls []) := by
  have hx := X.1
  have hb := X.2.1
  intro x3 x4 M hf H locs ls hw hl
  rw [gX8_takesNumber_60] at hf
  refine lv_iload_n hx hb dX8_takesNumber_60 rfl (lv_at hl 0 rfl) ?_
  refine lv_if_eq (tgt := 69) hx hb dX8_takesNumber_61 (by decide) (fun c59 => ?_) (fun c59 => ?_)
  · replace hf := (if_pos c59).symm.trans hf
    refine lv_iconst (v := 0) hx hb dX8_takesNumber_69 (by decide) ?_
    exact tX8_takesNumber_70 X hr hlk 0 M hf H locs ls hw (lv_sub hl [] rfl)
  · replace hf := (if_neg c59).symm.trans hf
    refine lv_iload hx hb dX8_takesNumber_64 (lv_at hl 1 rfl) ?_
    refine lv_goto (tgt := 70) hx hb dX8_takesNumber_66 (by decide) ?_
    exact tX8_takesNumber_70 X hr hlk x4 M hf H locs ls hw (lv_sub hl [] rfl)
set_option maxHeartbeats 4000000 in
set_option maxRecDepth 100000 in
theorem tX8_takesNumber_43 {p : Program} {l : Launch} {e : Env} {s : State} {m : MethodId} {args : Array Value} {below : List Frame} {meth : Method} {c : Code} {E : EE} {b : Nat} {MC : Mem} {TC : Int64} {TM : Int64} {res : Int32 × Mem} (X : CX E p s m args c cX8_takesNumber 5 RX8) (hr : meth.sig.returnType = (some .int)) (hlk : meth.locks = false)    : ∀ (x3 : Int32) (y0 : Int32) (M : Mem), gX8_takesNumber_43 x3 y0 M = some res → ∀ (H : Heap) (locs : List Loc) (ls : Array Slot), WW E b MC TC M TM s H locs → lv_has ls 5 [(0, .ref (b + 197)), (3, .int x3)] → W p l e rmX8_takesNumber s m args below meth c H locs 0 0 (MQ below (va_Qi (fun x (_ : Unit) => x = res.1) (fun _ t => PW E b MC TC res.2 TM t) (AA b)) args s 0 0 (AA b)) (F0 m 43 ls [.int y0, .ref (b + 197)]) := by
  have hx := X.1
  have hb := X.2.1
  intro x3 y0 M hf H locs ls hw hl
  rw [gX8_takesNumber_43] at hf
  obtain ⟨M56, eM56, hf⟩ := ob hf
  refine pt_X8_19 X hw kk_197 (pfZ_s eM56).1 mw_740 dX8_takesNumber_43 (fun H locs hw => ?_)
  rw [(pfZ_s eM56).2] at hw
  refine lv_aload_n hx hb dX8_takesNumber_46 rfl (lv_at hl 0 rfl) ?_
  refine gt_X8 X hw 18 kk_197 rfl (by decide) mw_739 rfl dX8_takesNumber_47 ?_
  refine lv_topi (fun z57 ez57 => ?_)
  replace hf := nmb hf ez57
  refine lv_istore (lv' := [(4, .int z57), (0, .ref (b + 197)), (3, .int x3)]) hx hb dX8_takesNumber_50 hl (by decide) rfl (fun ls hl => ?_)
  refine lv_iload_n hx hb dX8_takesNumber_52 rfl (lv_at hl 2 rfl) ?_
  refine lv_if_eq (tgt := 60) hx hb dX8_takesNumber_53 (by decide) (fun c58 => ?_) (fun c58 => ?_)
  · replace hf := (if_pos c58).symm.trans hf
    exact tX8_takesNumber_60 X hr hlk x3 z57 M56 hf H locs ls hw (lv_sub hl [2, 0] rfl)
  · replace hf := (if_neg c58).symm.trans hf
    refine lv_aload_n hx hb dX8_takesNumber_56 rfl (lv_at hl 1 rfl) ?_
    obtain ⟨u60, q61, hf⟩ := ob hf
    refine cVv (As := []) X hw (ctX8_next l E b  q61) ⟨mw_830, mw_832, mw_30, mw_61, mw_833⟩ hd_X8_next ⟨Nat.le_of_ble_eq_true rfl, Nat.le_of_ble_eq_true rfl, rfl, rfl⟩ (kdk kk_197 (by decide)) (ce_X8 E _ _ _ _ kk_197) (show vwCl[8]? = some (RX8, TX8, 31) from rfl) rfl hl.1 rfl (Nat.le_of_ble_eq_true rfl) dX8_takesNumber_57 (fun H locs hw => ?_)
    exact tX8_takesNumber_60 X hr hlk x3 z57 u60 hf H locs ls hw (lv_sub hl [2, 0] rfl)
set_option maxHeartbeats 4000000 in
set_option maxRecDepth 100000 in
theorem tX8_takesNumber_32 {p : Program} {l : Launch} {e : Env} {s : State} {m : MethodId} {args : Array Value} {below : List Frame} {meth : Method} {c : Code} {E : EE} {b : Nat} {MC : Mem} {TC : Int64} {TM : Int64} {res : Int32 × Mem} (X : CX E p s m args c cX8_takesNumber 5 RX8) (hr : meth.sig.returnType = (some .int)) (hlk : meth.locks = false)    : ∀ (y0 : Int32) (M : Mem), gX8_takesNumber_32 y0 M = some res → ∀ (H : Heap) (locs : List Loc) (ls : Array Slot), WW E b MC TC M TM s H locs → lv_has ls 5 [(0, .ref (b + 197))] → W p l e rmX8_takesNumber s m args below meth c H locs 0 0 (MQ below (va_Qi (fun x (_ : Unit) => x = res.1) (fun _ t => PW E b MC TC res.2 TM t) (AA b)) args s 0 0 (AA b)) (F0 m 32 ls [.int y0]) := by
  have hx := X.1
  have hb := X.2.1
  intro y0 M hf H locs ls hw hl
  rw [gX8_takesNumber_32] at hf
  refine lv_istore_n (lv' := [(3, .int y0), (0, .ref (b + 197))]) hx hb dX8_takesNumber_32 rfl hl (by decide) rfl (fun ls hl => ?_)
  refine lv_aload_n hx hb dX8_takesNumber_33 rfl (lv_at hl 1 rfl) ?_
  refine lv_iload_n hx hb dX8_takesNumber_34 rfl (lv_at hl 0 rfl) ?_
  refine lv_if_ne (tgt := 42) hx hb dX8_takesNumber_35 (by decide) (fun c55 => ?_) (fun c55 => ?_)
  · replace hf := (if_neg c55).symm.trans hf
    refine lv_iconst (v := 0) hx hb dX8_takesNumber_42 (by decide) ?_
    exact tX8_takesNumber_43 X hr hlk y0 0 M hf H locs ls hw (lv_sub hl [1, 0] rfl)
  · replace hf := (if_pos c55).symm.trans hf
    refine lv_iconst (v := 1) hx hb dX8_takesNumber_38 (by decide) ?_
    refine lv_goto (tgt := 43) hx hb dX8_takesNumber_39 (by decide) ?_
    exact tX8_takesNumber_43 X hr hlk y0 1 M hf H locs ls hw (lv_sub hl [1, 0] rfl)
set_option maxHeartbeats 4000000 in
set_option maxRecDepth 100000 in
theorem tX8_takesNumber_31 {p : Program} {l : Launch} {e : Env} {s : State} {m : MethodId} {args : Array Value} {below : List Frame} {meth : Method} {c : Code} {E : EE} {b : Nat} {MC : Mem} {TC : Int64} {TM : Int64} {res : Int32 × Mem} (X : CX E p s m args c cX8_takesNumber 5 RX8) (hr : meth.sig.returnType = (some .int)) (hlk : meth.locks = false)    : ∀ (M : Mem), gX8_takesNumber_31 M = some res → ∀ (H : Heap) (locs : List Loc) (ls : Array Slot), WW E b MC TC M TM s H locs → lv_has ls 5 [(0, .ref (b + 197))] → W p l e rmX8_takesNumber s m args below meth c H locs 0 0 (MQ below (va_Qi (fun x (_ : Unit) => x = res.1) (fun _ t => PW E b MC TC res.2 TM t) (AA b)) args s 0 0 (AA b)) (F0 m 31 ls []) := by
  have hx := X.1
  have hb := X.2.1
  intro M hf H locs ls hw hl
  rw [gX8_takesNumber_31] at hf
  refine lv_iconst (v := 0) hx hb dX8_takesNumber_31 (by decide) ?_
  exact tX8_takesNumber_32 X hr hlk 0 M hf H locs ls hw (lv_sub hl [0] rfl)
set_option maxHeartbeats 4000000 in
set_option maxRecDepth 100000 in
theorem ctX8_takesNumber (l : Launch) (E : EE) (b : Nat) {MC : Mem} {TC : Int64} {TM : Int64} {x1 : Int32} {x2 : Int32} {M : Mem} {res : Int32 × Mem}  (hf : gX8_takesNumber x1 x2 M = some res) : MetI l E b yX8_takesNumber (.code yX8_takesNumber cX8_takesNumber 5 (some .int)) rmX8_takesNumber [.ref (b + 197), .int x1, .int x2] MC TC M TM res.1 MC TC res.2 TM := by
  refine Met.ofW (cc := cX8_takesNumber) (maxL := 5) (ret := (some .int)) (by decide) rfl ?_
  intro p e s m args below meth c s₁ B hml hv
  obtain ⟨rfl, hP, hK⟩ := hv
  have hx := B.exec
  have hb := B.bytes
  have X : CX E p s m _ c cX8_takesNumber 5 RX8 := ⟨hx, hb, hml, findClass_of_methodNamed B.named, fun w h => atoms_spec (ws := _ :: wt) B.pre w (List.mem_cons_of_mem _ h), hK⟩
  have hr := B.returns
  have hlk := B.notSynchronized
  have hw : WW E b MC TC M TM s s.heap [] := ⟨hP, va_S.rf⟩
  have hl := lv_entry ([.ref (b + 197), .int x1, .int x2]) (n := 5) (Nat.le_of_ble_eq_true rfl)
  rw [lg_entry_eq]
  generalize (lg_sl ([.ref (b + 197), .int x1, .int x2]) ++ List.replicate (5 - (lg_sl ([.ref (b + 197), .int x1, .int x2])).length) Slot.unset).toArray = ls at hl ⊢
  have hl : lv_has ls 5 [(0, .ref (b + 197)), (1, .int x1), (2, .int x2)] := hl
  obtain ⟨H, hH⟩ : ∃ H, H = s.heap := ⟨_, rfl⟩
  obtain ⟨locs, hL⟩ : ∃ L : List Loc, L = [] := ⟨_, rfl⟩
  rw [← hH, ← hL] at hw
  suffices hg : W p l e rmX8_takesNumber s m _ below meth c H locs 0 0 (MQ below (va_Qi (fun x (_ : Unit) => x = res.1) (fun _ t => PW E b MC TC res.2 TM t) (AA b)) _ s 0 0 (AA b)) (F0 m 0 ls []) by rw [hH, hL] at hg; exact hg
  clear hH hL
  rw [gX8_takesNumber] at hf
  refine lv_aload_n hx hb dX8_takesNumber_0 rfl (lv_at hl 0 rfl) ?_
  refine gt_X8 X hw 19 kk_197 rfl (by decide) mw_740 rfl dX8_takesNumber_1 ?_
  refine lv_if_ne (tgt := 31) hx hb dX8_takesNumber_4 (by decide) (fun c54 => ?_) (fun c54 => ?_)
  · replace hf := (if_neg c54).symm.trans hf
    exact tX8_takesNumber_31 X hr hlk M hf H locs ls hw (lv_sub hl [0] rfl)
  · replace hf := (if_pos c54).symm.trans hf
    refine lv_aload_n hx hb dX8_takesNumber_7 rfl (lv_at hl 0 rfl) ?_
    refine gt_X8 X hw 17 kk_197 rfl (by decide) mw_738 rfl dX8_takesNumber_8 ?_
    refine lv_iconst (v := 2) hx hb dX8_takesNumber_11 (by decide) ?_
    refine lv_icmp_ne (tgt := 31) hx hb dX8_takesNumber_12 (by decide) (fun c62 => ?_) (fun c62 => ?_)
    · replace hf := (if_neg c62).symm.trans hf
      exact tX8_takesNumber_31 X hr hlk M hf H locs ls hw (lv_sub hl [0] rfl)
    · replace hf := (if_pos c62).symm.trans hf
      refine lv_aload_n hx hb dX8_takesNumber_15 rfl (lv_at hl 0 rfl) ?_
      refine gt_X8 X hw 18 kk_197 rfl (by decide) mw_739 rfl dX8_takesNumber_16 ?_
      refine lv_iload_n hx hb dX8_takesNumber_19 rfl (lv_at hl 1 rfl) ?_
      refine lv_iload_n hx hb dX8_takesNumber_20 rfl (lv_at hl 2 rfl) ?_
      obtain ⟨u63, q64, hf⟩ := ob hf
      refine cSi (As := [.int (M 197 18), .int x1, .int x2]) X hw (ctX8_in l E b  q64) ⟨mw_819, mw_820, mw_61, mw_821⟩ hd_X8_in ⟨Nat.le_of_ble_eq_true rfl, Nat.le_of_ble_eq_true rfl, rfl, rfl⟩ rfl hl.1 rfl (Nat.le_of_ble_eq_true rfl) dX8_takesNumber_21 (fun H locs hw => ?_)
      refine lv_if_eq (tgt := 31) hx hb dX8_takesNumber_24 (by decide) (fun c65 => ?_) (fun c65 => ?_)
      · replace hf := (if_pos c65).symm.trans hf
        exact tX8_takesNumber_31 X hr hlk M hf H locs ls hw (lv_sub hl [0] rfl)
      · replace hf := (if_neg c65).symm.trans hf
        refine lv_iconst (v := 1) hx hb dX8_takesNumber_27 (by decide) ?_
        refine lv_goto (tgt := 32) hx hb dX8_takesNumber_28 (by decide) ?_
        exact tX8_takesNumber_32 X hr hlk 1 M hf H locs ls hw (lv_sub hl [0] rfl)

abbrev rmX8_readOne : Room := { frames := 4, cells := 0, slots := 0, locals := 87 }
theorem hd_X8_readOne : Hd yX8_readOne RX8 0 := by decide +kernel
def gX8_readOne_69   (x1 : Int32) (x2 : Int32) (M : Mem) : Option (Mem) := (stA 5 M 208 x1 x2).bind fun M72 => (some (us M72 197 21 ((M72 197 21) + 1))).bind fun M74 => some (M74)
def gX8_readOne_45  (k20 : Int32 → Int32 → Mem → Option (Mem)) (x1 : Int32) (x2 : Int32) (M : Mem) : Option (Mem) := (gX8_takesNumber 0 9 M).bind fun u77 => (stA 35 u77.2 209 ((7 * x1) + x2) u77.1).bind fun M79 => (some (x2 + 1)).bind fun z81 => k20 x1 z81 M79
def gX8_readOne_41  (k20 : Int32 → Int32 → Mem → Option (Mem)) (x1 : Int32) (x2 : Int32) (M : Mem) : Option (Mem) := if x2 = 0 then (gX8_readOne_45 k20 x1 x2 M) else (gX8_readOne_69 x1 x2 M)
def gX8_readOne_20   : Nat → Int32 → Int32 → Mem → Option (Mem)
  | 0, _, _, _ => none
  | n + 1, x1, x2, M => if (M 197 19) = 0 then (if (M 197 17) = 2 then (if x2 < 7 then (gX8_readOne_45 (gX8_readOne_20 n) x1 x2 M) else (gX8_readOne_41 (gX8_readOne_20 n) x1 x2 M)) else (gX8_readOne_41 (gX8_readOne_20 n) x1 x2 M)) else (gX8_readOne_69 x1 x2 M)
def gX8_readOne (M : Mem) : Option (Mem) := (some (M 197 21)).bind fun z66 => (gX8_takesNumber 0 9 M).bind fun u67 => (stA 5 u67.2 207 z66 u67.1).bind fun M69 => gX8_readOne_20 FU z66 0 M69
set_option maxHeartbeats 4000000 in
set_option maxRecDepth 100000 in
theorem tX8_readOne_69 {p : Program} {l : Launch} {e : Env} {s : State} {m : MethodId} {args : Array Value} {below : List Frame} {meth : Method} {c : Code} {E : EE} {b : Nat} {MC : Mem} {TC : Int64} {TM : Int64} {res : Mem} (X : CX E p s m args c cX8_readOne 3 RX8) (hr : meth.sig.returnType = none) (hlk : meth.locks = false)    : ∀ (x1 : Int32) (x2 : Int32) (M : Mem), gX8_readOne_69 x1 x2 M = some res → ∀ (H : Heap) (locs : List Loc) (ls : Array Slot), WW E b MC TC M TM s H locs → lv_has ls 3 [(0, .ref (b + 197)), (1, .int x1), (2, .int x2)] → W p l e rmX8_readOne s m args below meth c H locs 0 0 (MQ below (va_Qv (fun (_ : Unit) => True) (fun _ t => PW E b MC TC res TM t) (AA b)) args s 0 0 (AA b)) (F0 m 69 ls []) := by
  have hx := X.1
  have hb := X.2.1
  intro x1 x2 M hf H locs ls hw hl
  rw [gX8_readOne_69] at hf
  refine lv_aload_n hx hb dX8_readOne_69 rfl (lv_at hl 0 rfl) ?_
  refine gt_X8 X hw 23 kk_197 rfl (by decide) mw_744 rfl dX8_readOne_70 ?_
  refine lv_iload_n hx hb dX8_readOne_73 rfl (lv_at hl 1 rfl) ?_
  refine lv_iload_n hx hb dX8_readOne_74 rfl (lv_at hl 2 rfl) ?_
  obtain ⟨M72, q73, hf⟩ := ob hf
  refine astM X hw kdv_208 q73 dX8_readOne_75 (fun H locs hw => ?_)
  refine lv_aload_n hx hb dX8_readOne_76 rfl (lv_at hl 0 rfl) ?_
  refine lv_dup hx hb dX8_readOne_77 rfl ?_
  refine gt_X8 X hw 21 kk_197 rfl (by decide) mw_742 rfl dX8_readOne_78 ?_
  refine lv_iconst (v := 1) hx hb dX8_readOne_81 (by decide) ?_
  refine lv_iadd hx hb dX8_readOne_82 ?_
  obtain ⟨M74, eM74, hf⟩ := ob hf
  refine pt_X8_21 X hw kk_197 mw_742 dX8_readOne_83 (fun H locs hw => ?_)
  rw [Option.some.inj eM74] at hw
  replace hf := Option.some.inj hf
  subst hf
  exact eV X hw hr hlk dX8_readOne_86
set_option maxHeartbeats 4000000 in
set_option maxRecDepth 100000 in
theorem tX8_readOne_45 {p : Program} {l : Launch} {e : Env} {s : State} {m : MethodId} {args : Array Value} {below : List Frame} {meth : Method} {c : Code} {E : EE} {b : Nat} {MC : Mem} {TC : Int64} {TM : Int64} {res : Mem} (X : CX E p s m args c cX8_readOne 3 RX8) (hr : meth.sig.returnType = none) (hlk : meth.locks = false)   {k20 : Int32 → Int32 → Mem → Option (Mem)} (hk20 : ∀ (x1 : Int32) (x2 : Int32) (M : Mem), k20 x1 x2 M = some res → ∀ (H : Heap) (locs : List Loc) (ls : Array Slot), WW E b MC TC M TM s H locs → lv_has ls 3 [(0, .ref (b + 197)), (1, .int x1), (2, .int x2)] → W p l e rmX8_readOne s m args below meth c H locs 0 0 (MQ below (va_Qv (fun (_ : Unit) => True) (fun _ t => PW E b MC TC res TM t) (AA b)) args s 0 0 (AA b)) (F0 m 20 ls [])) : ∀ (x1 : Int32) (x2 : Int32) (M : Mem), gX8_readOne_45 k20 x1 x2 M = some res → ∀ (H : Heap) (locs : List Loc) (ls : Array Slot), WW E b MC TC M TM s H locs → lv_has ls 3 [(0, .ref (b + 197)), (1, .int x1), (2, .int x2)] → W p l e rmX8_readOne s m args below meth c H locs 0 0 (MQ below (va_Qv (fun (_ : Unit) => True) (fun _ t => PW E b MC TC res TM t) (AA b)) args s 0 0 (AA b)) (F0 m 45 ls []) := by
  have hx := X.1
  have hb := X.2.1
  intro x1 x2 M hf H locs ls hw hl
  rw [gX8_readOne_45] at hf
  refine lv_aload_n hx hb dX8_readOne_45 rfl (lv_at hl 0 rfl) ?_
  refine gt_X8 X hw 24 kk_197 rfl (by decide) mw_745 rfl dX8_readOne_46 ?_
  refine lv_bipush (v := 7) hx hb dX8_readOne_49 (by decide) ?_
  refine lv_iload_n hx hb dX8_readOne_51 rfl (lv_at hl 1 rfl) ?_
  refine lv_imul hx hb dX8_readOne_52 ?_
  refine lv_iload_n hx hb dX8_readOne_53 rfl (lv_at hl 2 rfl) ?_
  refine lv_iadd hx hb dX8_readOne_54 ?_
  refine lv_aload_n hx hb dX8_readOne_55 rfl (lv_at hl 0 rfl) ?_
  refine lv_iconst (v := 0) hx hb dX8_readOne_56 (by decide) ?_
  refine lv_bipush (v := 9) hx hb dX8_readOne_57 (by decide) ?_
  obtain ⟨u77, q78, hf⟩ := ob hf
  refine cVi (As := [.int 0, .int 9]) X hw (ctX8_takesNumber l E b  q78) ⟨mw_856, mw_858, mw_35, mw_61, mw_859⟩ hd_X8_takesNumber ⟨Nat.le_of_ble_eq_true rfl, Nat.le_of_ble_eq_true rfl, rfl, rfl⟩ (kdk kk_197 (by decide)) (ce_X8 E _ _ _ _ kk_197) (show vwCl[8]? = some (RX8, TX8, 31) from rfl) rfl hl.1 rfl (Nat.le_of_ble_eq_true rfl) dX8_readOne_59 (fun H locs hw => ?_)
  obtain ⟨M79, q80, hf⟩ := ob hf
  refine astM X hw kdv_209 q80 dX8_readOne_62 (fun H locs hw => ?_)
  obtain ⟨z81, ez81⟩ : ∃ y : Int32, y = x2 + 1 := ⟨_, rfl⟩
  replace hf := nmb hf ez81
  refine lv_iinc (v := z81) (lv' := [(2, .int z81), (0, .ref (b + 197)), (1, .int x1)]) hx hb dX8_readOne_63 hl (k := 2) rfl (by rw [ez81]; rfl) (by decide) rfl (fun ls hl => ?_)
  refine lv_goto (tgt := 20) hx hb dX8_readOne_66 (by decide) ?_
  exact hk20 x1 z81 M79 hf H locs ls hw (lv_sub hl [1, 2, 0] rfl)
set_option maxHeartbeats 4000000 in
set_option maxRecDepth 100000 in
theorem tX8_readOne_41 {p : Program} {l : Launch} {e : Env} {s : State} {m : MethodId} {args : Array Value} {below : List Frame} {meth : Method} {c : Code} {E : EE} {b : Nat} {MC : Mem} {TC : Int64} {TM : Int64} {res : Mem} (X : CX E p s m args c cX8_readOne 3 RX8) (hr : meth.sig.returnType = none) (hlk : meth.locks = false)   {k20 : Int32 → Int32 → Mem → Option (Mem)} (hk20 : ∀ (x1 : Int32) (x2 : Int32) (M : Mem), k20 x1 x2 M = some res → ∀ (H : Heap) (locs : List Loc) (ls : Array Slot), WW E b MC TC M TM s H locs → lv_has ls 3 [(0, .ref (b + 197)), (1, .int x1), (2, .int x2)] → W p l e rmX8_readOne s m args below meth c H locs 0 0 (MQ below (va_Qv (fun (_ : Unit) => True) (fun _ t => PW E b MC TC res TM t) (AA b)) args s 0 0 (AA b)) (F0 m 20 ls [])) : ∀ (x1 : Int32) (x2 : Int32) (M : Mem), gX8_readOne_41 k20 x1 x2 M = some res → ∀ (H : Heap) (locs : List Loc) (ls : Array Slot), WW E b MC TC M TM s H locs → lv_has ls 3 [(0, .ref (b + 197)), (1, .int x1), (2, .int x2)] → W p l e rmX8_readOne s m args below meth c H locs 0 0 (MQ below (va_Qv (fun (_ : Unit) => True) (fun _ t => PW E b MC TC res TM t) (AA b)) args s 0 0 (AA b)) (F0 m 41 ls []) := by
  have hx := X.1
  have hb := X.2.1
  intro x1 x2 M hf H locs ls hw hl
  rw [gX8_readOne_41] at hf
  refine lv_iload_n hx hb dX8_readOne_41 rfl (lv_at hl 2 rfl) ?_
  refine lv_if_ne (tgt := 69) hx hb dX8_readOne_42 (by decide) (fun c76 => ?_) (fun c76 => ?_)
  · replace hf := (if_neg c76).symm.trans hf
    exact tX8_readOne_69 X hr hlk x1 x2 M hf H locs ls hw (lv_sub hl [0, 1, 2] rfl)
  · replace hf := (if_pos c76).symm.trans hf
    exact tX8_readOne_45 X hr hlk hk20 x1 x2 M hf H locs ls hw (lv_sub hl [0, 1, 2] rfl)
set_option maxHeartbeats 4000000 in
set_option maxRecDepth 100000 in
theorem tX8_readOne_20 {p : Program} {l : Launch} {e : Env} {s : State} {m : MethodId} {args : Array Value} {below : List Frame} {meth : Method} {c : Code} {E : EE} {b : Nat} {MC : Mem} {TC : Int64} {TM : Int64} {res : Mem} (X : CX E p s m args c cX8_readOne 3 RX8) (hr : meth.sig.returnType = none) (hlk : meth.locks = false)    : ∀ (n : Nat) (x1 : Int32) (x2 : Int32) (M : Mem), gX8_readOne_20 n x1 x2 M = some res → ∀ (H : Heap) (locs : List Loc) (ls : Array Slot), WW E b MC TC M TM s H locs → lv_has ls 3 [(0, .ref (b + 197)), (1, .int x1), (2, .int x2)] → W p l e rmX8_readOne s m args below meth c H locs 0 0 (MQ below (va_Qv (fun (_ : Unit) => True) (fun _ t => PW E b MC TC res TM t) (AA b)) args s 0 0 (AA b)) (F0 m 20 ls []) := by
  have hx := X.1
  have hb := X.2.1
  intro n
  induction n with
  | zero =>
    intro x1 x2 M hf
    cases (show (none : Option (Mem)) = some res from hf)
  | succ n ih =>
    intro x1 x2 M hf H locs ls hw hl
    rw [gX8_readOne_20] at hf
    refine lv_aload_n hx hb dX8_readOne_20 rfl (lv_at hl 0 rfl) ?_
    refine gt_X8 X hw 19 kk_197 rfl (by decide) mw_740 rfl dX8_readOne_21 ?_
    refine lv_if_ne (tgt := 69) hx hb dX8_readOne_24 (by decide) (fun c71 => ?_) (fun c71 => ?_)
    · replace hf := (if_neg c71).symm.trans hf
      exact tX8_readOne_69 X hr hlk x1 x2 M hf H locs ls hw (lv_sub hl [0, 1, 2] rfl)
    · replace hf := (if_pos c71).symm.trans hf
      refine lv_aload_n hx hb dX8_readOne_27 rfl (lv_at hl 0 rfl) ?_
      refine gt_X8 X hw 17 kk_197 rfl (by decide) mw_738 rfl dX8_readOne_28 ?_
      refine lv_iconst (v := 2) hx hb dX8_readOne_31 (by decide) ?_
      refine lv_icmp_ne (tgt := 41) hx hb dX8_readOne_32 (by decide) (fun c75 => ?_) (fun c75 => ?_)
      · replace hf := (if_neg c75).symm.trans hf
        exact tX8_readOne_41 X hr hlk ih x1 x2 M hf H locs ls hw (lv_sub hl [0, 1, 2] rfl)
      · replace hf := (if_pos c75).symm.trans hf
        refine lv_iload_n hx hb dX8_readOne_35 rfl (lv_at hl 2 rfl) ?_
        refine lv_bipush (v := 7) hx hb dX8_readOne_36 (by decide) ?_
        refine lv_icmp_lt (tgt := 45) hx hb dX8_readOne_38 (by decide) (fun c82 => ?_) (fun c82 => ?_)
        · replace hf := (if_pos c82).symm.trans hf
          exact tX8_readOne_45 X hr hlk ih x1 x2 M hf H locs ls hw (lv_sub hl [0, 1, 2] rfl)
        · replace hf := (if_neg c82).symm.trans hf
          exact tX8_readOne_41 X hr hlk ih x1 x2 M hf H locs ls hw (lv_sub hl [0, 1, 2] rfl)
set_option maxHeartbeats 4000000 in
set_option maxRecDepth 100000 in
theorem ctX8_readOne (l : Launch) (E : EE) (b : Nat) {MC : Mem} {TC : Int64} {TM : Int64} {M : Mem} {res : Mem}  (hf : gX8_readOne M = some res) : MetV l E b yX8_readOne (.code yX8_readOne cX8_readOne 3 none) rmX8_readOne [.ref (b + 197)] MC TC M TM MC TC res TM := by
  refine Met.ofW (cc := cX8_readOne) (maxL := 3) (ret := none) (by decide) rfl ?_
  intro p e s m args below meth c s₁ B hml hv
  obtain ⟨rfl, hP, hK⟩ := hv
  have hx := B.exec
  have hb := B.bytes
  have X : CX E p s m _ c cX8_readOne 3 RX8 := ⟨hx, hb, hml, findClass_of_methodNamed B.named, fun w h => atoms_spec (ws := _ :: wt) B.pre w (List.mem_cons_of_mem _ h), hK⟩
  have hr := B.returns
  have hlk := B.notSynchronized
  have hw : WW E b MC TC M TM s s.heap [] := ⟨hP, va_S.rf⟩
  have hl := lv_entry ([.ref (b + 197)]) (n := 3) (Nat.le_of_ble_eq_true rfl)
  rw [lg_entry_eq]
  generalize (lg_sl ([.ref (b + 197)]) ++ List.replicate (3 - (lg_sl ([.ref (b + 197)])).length) Slot.unset).toArray = ls at hl ⊢
  have hl : lv_has ls 3 [(0, .ref (b + 197))] := hl
  obtain ⟨H, hH⟩ : ∃ H, H = s.heap := ⟨_, rfl⟩
  obtain ⟨locs, hL⟩ : ∃ L : List Loc, L = [] := ⟨_, rfl⟩
  rw [← hH, ← hL] at hw
  suffices hg : W p l e rmX8_readOne s m _ below meth c H locs 0 0 (MQ below (va_Qv (fun (_ : Unit) => True) (fun _ t => PW E b MC TC res TM t) (AA b)) _ s 0 0 (AA b)) (F0 m 0 ls []) by rw [hH, hL] at hg; exact hg
  clear hH hL
  rw [gX8_readOne] at hf
  refine lv_aload_n hx hb dX8_readOne_0 rfl (lv_at hl 0 rfl) ?_
  refine gt_X8 X hw 21 kk_197 rfl (by decide) mw_742 rfl dX8_readOne_1 ?_
  refine lv_topi (fun z66 ez66 => ?_)
  replace hf := nmb hf ez66
  refine lv_istore_n (lv' := [(1, .int z66), (0, .ref (b + 197))]) hx hb dX8_readOne_4 rfl hl (by decide) rfl (fun ls hl => ?_)
  refine lv_aload_n hx hb dX8_readOne_5 rfl (lv_at hl 1 rfl) ?_
  refine gt_X8 X hw 22 kk_197 rfl (by decide) mw_743 rfl dX8_readOne_6 ?_
  refine lv_iload_n hx hb dX8_readOne_9 rfl (lv_at hl 0 rfl) ?_
  refine lv_aload_n hx hb dX8_readOne_10 rfl (lv_at hl 1 rfl) ?_
  refine lv_iconst (v := 0) hx hb dX8_readOne_11 (by decide) ?_
  refine lv_bipush (v := 9) hx hb dX8_readOne_12 (by decide) ?_
  obtain ⟨u67, q68, hf⟩ := ob hf
  refine cVi (As := [.int 0, .int 9]) X hw (ctX8_takesNumber l E b  q68) ⟨mw_856, mw_858, mw_35, mw_61, mw_859⟩ hd_X8_takesNumber ⟨Nat.le_of_ble_eq_true rfl, Nat.le_of_ble_eq_true rfl, rfl, rfl⟩ (kdk kk_197 (by decide)) (ce_X8 E _ _ _ _ kk_197) (show vwCl[8]? = some (RX8, TX8, 31) from rfl) rfl hl.1 rfl (Nat.le_of_ble_eq_true rfl) dX8_readOne_14 (fun H locs hw => ?_)
  obtain ⟨M69, q70, hf⟩ := ob hf
  refine astM X hw kdv_207 q70 dX8_readOne_17 (fun H locs hw => ?_)
  refine lv_iconst (v := 0) hx hb dX8_readOne_18 (by decide) ?_
  refine lv_istore_n (lv' := [(2, .int 0), (1, .int z66), (0, .ref (b + 197))]) hx hb dX8_readOne_19 rfl hl (by decide) rfl (fun ls hl => ?_)
  exact tX8_readOne_20 X hr hlk FU z66 0 M69 hf H locs ls hw (lv_sub hl [2, 1, 0] rfl)

abbrev rmX8_mayBegin : Room := { frames := 0, cells := 0, slots := 0, locals := 0 }
theorem hd_X8_mayBegin : Hd yX8_mayBegin RX8 1 := by decide +kernel
def gX8_mayBegin_75   (y0 : Int32) (M : Mem) : Option (Int32) := (zr y0).bind fun v85 => some (v85)
def gX8_mayBegin_62   (y0 : Int32) (M : Mem) : Option (Int32) := (zr y0).bind fun v89 => some (v89)
def gX8_mayBegin_49   (y0 : Int32) (M : Mem) : Option (Int32) := (zr y0).bind fun v93 => some (v93)
def gX8_mayBegin (x1 : Int32) (M : Mem) : Option (Int32) := if x1 = 106 then (if 0 ≤ (M 197 26) then (gX8_mayBegin_75 0 M) else (gX8_mayBegin_75 1 M)) else (if x1 = 109 then (if 0 ≤ (M 197 25) then (gX8_mayBegin_62 0 M) else (gX8_mayBegin_62 1 M)) else (if x1 = 112 then (if 5 ≤ (M 197 21) then (gX8_mayBegin_49 0 M) else (gX8_mayBegin_49 1 M)) else (some (0))))
set_option maxHeartbeats 4000000 in
set_option maxRecDepth 100000 in
theorem tX8_mayBegin_75 {p : Program} {l : Launch} {e : Env} {s : State} {m : MethodId} {args : Array Value} {below : List Frame} {meth : Method} {c : Code} {E : EE} {b : Nat} {MC : Mem} {TC : Int64} {TM : Int64} {res : Int32} (X : CX E p s m args c cX8_mayBegin 2 RX8) (hr : meth.sig.returnType = (some .boolean)) (hlk : meth.locks = false)    : ∀ (y0 : Int32) (M : Mem), gX8_mayBegin_75 y0 M = some res → ∀ (H : Heap) (locs : List Loc) (ls : Array Slot), WW E b MC TC M TM s H locs → lv_has ls 2 [] → W p l e rmX8_mayBegin s m args below meth c H locs 0 0 (MQ below (va_Qi (fun x (_ : Unit) => x = res) (fun _ t => PW E b MC TC M TM t) (AA b)) args s 0 0 (AA b)) (F0 m 75 ls [.int y0]) := by
  have hx := X.1
  have hb := X.2.1
  intro y0 M hf H locs ls hw hl
  rw [gX8_mayBegin_75] at hf
  obtain ⟨v85, q86, hf⟩ := ob hf
  obtain ⟨eq86, q86⟩ := zr_s q86
  rw [eq86]
  replace hf := Option.some.inj hf
  subst hf
  exact eZ X hw q86 hr hlk dX8_mayBegin_75
set_option maxHeartbeats 4000000 in
set_option maxRecDepth 100000 in
theorem tX8_mayBegin_62 {p : Program} {l : Launch} {e : Env} {s : State} {m : MethodId} {args : Array Value} {below : List Frame} {meth : Method} {c : Code} {E : EE} {b : Nat} {MC : Mem} {TC : Int64} {TM : Int64} {res : Int32} (X : CX E p s m args c cX8_mayBegin 2 RX8) (hr : meth.sig.returnType = (some .boolean)) (hlk : meth.locks = false)    : ∀ (y0 : Int32) (M : Mem), gX8_mayBegin_62 y0 M = some res → ∀ (H : Heap) (locs : List Loc) (ls : Array Slot), WW E b MC TC M TM s H locs → lv_has ls 2 [] → W p l e rmX8_mayBegin s m args below meth c H locs 0 0 (MQ below (va_Qi (fun x (_ : Unit) => x = res) (fun _ t => PW E b MC TC M TM t) (AA b)) args s 0 0 (AA b)) (F0 m 62 ls [.int y0]) := by
  have hx := X.1
  have hb := X.2.1
  intro y0 M hf H locs ls hw hl
  rw [gX8_mayBegin_62] at hf
  obtain ⟨v89, q90, hf⟩ := ob hf
  obtain ⟨eq90, q90⟩ := zr_s q90
  rw [eq90]
  replace hf := Option.some.inj hf
  subst hf
  exact eZ X hw q90 hr hlk dX8_mayBegin_62
set_option maxHeartbeats 4000000 in
set_option maxRecDepth 100000 in
theorem tX8_mayBegin_49 {p : Program} {l : Launch} {e : Env} {s : State} {m : MethodId} {args : Array Value} {below : List Frame} {meth : Method} {c : Code} {E : EE} {b : Nat} {MC : Mem} {TC : Int64} {TM : Int64} {res : Int32} (X : CX E p s m args c cX8_mayBegin 2 RX8) (hr : meth.sig.returnType = (some .boolean)) (hlk : meth.locks = false)    : ∀ (y0 : Int32) (M : Mem), gX8_mayBegin_49 y0 M = some res → ∀ (H : Heap) (locs : List Loc) (ls : Array Slot), WW E b MC TC M TM s H locs → lv_has ls 2 [] → W p l e rmX8_mayBegin s m args below meth c H locs 0 0 (MQ below (va_Qi (fun x (_ : Unit) => x = res) (fun _ t => PW E b MC TC M TM t) (AA b)) args s 0 0 (AA b)) (F0 m 49 ls [.int y0]) := by
  have hx := X.1
  have hb := X.2.1
  intro y0 M hf H locs ls hw hl
  rw [gX8_mayBegin_49] at hf
  obtain ⟨v93, q94, hf⟩ := ob hf
  obtain ⟨eq94, q94⟩ := zr_s q94
  rw [eq94]
  replace hf := Option.some.inj hf
  subst hf
  exact eZ X hw q94 hr hlk dX8_mayBegin_49
set_option maxHeartbeats 4000000 in
set_option maxRecDepth 100000 in
theorem ctX8_mayBegin (l : Launch) (E : EE) (b : Nat) {MC : Mem} {TC : Int64} {TM : Int64} {x1 : Int32} {M : Mem} {res : Int32}  (hf : gX8_mayBegin x1 M = some res) : MetI l E b yX8_mayBegin (.code yX8_mayBegin cX8_mayBegin 2 (some .boolean)) rmX8_mayBegin [.ref (b + 197), .int x1] MC TC M TM res MC TC M TM := by
  refine Met.ofW (cc := cX8_mayBegin) (maxL := 2) (ret := (some .boolean)) (by decide) rfl ?_
  intro p e s m args below meth c s₁ B hml hv
  obtain ⟨rfl, hP, hK⟩ := hv
  have hx := B.exec
  have hb := B.bytes
  have X : CX E p s m _ c cX8_mayBegin 2 RX8 := ⟨hx, hb, hml, findClass_of_methodNamed B.named, fun w h => atoms_spec (ws := _ :: wt) B.pre w (List.mem_cons_of_mem _ h), hK⟩
  have hr := B.returns
  have hlk := B.notSynchronized
  have hw : WW E b MC TC M TM s s.heap [] := ⟨hP, va_S.rf⟩
  have hl := lv_entry ([.ref (b + 197), .int x1]) (n := 2) (Nat.le_of_ble_eq_true rfl)
  rw [lg_entry_eq]
  generalize (lg_sl ([.ref (b + 197), .int x1]) ++ List.replicate (2 - (lg_sl ([.ref (b + 197), .int x1])).length) Slot.unset).toArray = ls at hl ⊢
  have hl : lv_has ls 2 [(0, .ref (b + 197)), (1, .int x1)] := hl
  obtain ⟨H, hH⟩ : ∃ H, H = s.heap := ⟨_, rfl⟩
  obtain ⟨locs, hL⟩ : ∃ L : List Loc, L = [] := ⟨_, rfl⟩
  rw [← hH, ← hL] at hw
  suffices hg : W p l e rmX8_mayBegin s m _ below meth c H locs 0 0 (MQ below (va_Qi (fun x (_ : Unit) => x = res) (fun _ t => PW E b MC TC M TM t) (AA b)) _ s 0 0 (AA b)) (F0 m 0 ls []) by rw [hH, hL] at hg; exact hg
  clear hH hL
  rw [gX8_mayBegin] at hf
  refine lv_iload_n hx hb dX8_mayBegin_0 rfl (lv_at hl 1 rfl) ?_
  by_cases c83 : x1 = 106
  · replace hf := (if_pos c83).symm.trans hf
    refine lv_lookup (tgt := 63) (off := 62) hx hb dX8_mayBegin_1 (by decide) (by rw [c83]; rfl) (by decide) ?_
    refine lv_aload_n hx hb dX8_mayBegin_63 rfl (lv_at hl 0 rfl) ?_
    refine gt_X8 X hw 26 kk_197 rfl (by decide) mw_747 rfl dX8_mayBegin_64 ?_
    refine lv_if_ge (tgt := 74) hx hb dX8_mayBegin_67 (by decide) (fun c84 => ?_) (fun c84 => ?_)
    · replace hf := (if_pos c84).symm.trans hf
      refine lv_iconst (v := 0) hx hb dX8_mayBegin_74 (by decide) ?_
      exact tX8_mayBegin_75 X hr hlk 0 M hf H locs ls hw (lv_sub hl [] rfl)
    · replace hf := (if_neg c84).symm.trans hf
      refine lv_iconst (v := 1) hx hb dX8_mayBegin_70 (by decide) ?_
      refine lv_goto (tgt := 75) hx hb dX8_mayBegin_71 (by decide) ?_
      exact tX8_mayBegin_75 X hr hlk 1 M hf H locs ls hw (lv_sub hl [] rfl)
  · replace hf := (if_neg c83).symm.trans hf
    by_cases c87 : x1 = 109
    · replace hf := (if_pos c87).symm.trans hf
      refine lv_lookup (tgt := 50) (off := 49) hx hb dX8_mayBegin_1 (by decide) (by rw [c87]; rfl) (by decide) ?_
      refine lv_aload_n hx hb dX8_mayBegin_50 rfl (lv_at hl 0 rfl) ?_
      refine gt_X8 X hw 25 kk_197 rfl (by decide) mw_746 rfl dX8_mayBegin_51 ?_
      refine lv_if_ge (tgt := 61) hx hb dX8_mayBegin_54 (by decide) (fun c88 => ?_) (fun c88 => ?_)
      · replace hf := (if_pos c88).symm.trans hf
        refine lv_iconst (v := 0) hx hb dX8_mayBegin_61 (by decide) ?_
        exact tX8_mayBegin_62 X hr hlk 0 M hf H locs ls hw (lv_sub hl [] rfl)
      · replace hf := (if_neg c88).symm.trans hf
        refine lv_iconst (v := 1) hx hb dX8_mayBegin_57 (by decide) ?_
        refine lv_goto (tgt := 62) hx hb dX8_mayBegin_58 (by decide) ?_
        exact tX8_mayBegin_62 X hr hlk 1 M hf H locs ls hw (lv_sub hl [] rfl)
    · replace hf := (if_neg c87).symm.trans hf
      by_cases c91 : x1 = 112
      · replace hf := (if_pos c91).symm.trans hf
        refine lv_lookup (tgt := 36) (off := 35) hx hb dX8_mayBegin_1 (by decide) (by rw [c91]; rfl) (by decide) ?_
        refine lv_aload_n hx hb dX8_mayBegin_36 rfl (lv_at hl 0 rfl) ?_
        refine gt_X8 X hw 21 kk_197 rfl (by decide) mw_742 rfl dX8_mayBegin_37 ?_
        refine lv_iconst (v := 5) hx hb dX8_mayBegin_40 (by decide) ?_
        refine lv_icmp_ge (tgt := 48) hx hb dX8_mayBegin_41 (by decide) (fun c92 => ?_) (fun c92 => ?_)
        · replace hf := (if_pos c92).symm.trans hf
          refine lv_iconst (v := 0) hx hb dX8_mayBegin_48 (by decide) ?_
          exact tX8_mayBegin_49 X hr hlk 0 M hf H locs ls hw (lv_sub hl [] rfl)
        · replace hf := (if_neg c92).symm.trans hf
          refine lv_iconst (v := 1) hx hb dX8_mayBegin_44 (by decide) ?_
          refine lv_goto (tgt := 49) hx hb dX8_mayBegin_45 (by decide) ?_
          exact tX8_mayBegin_49 X hr hlk 1 M hf H locs ls hw (lv_sub hl [] rfl)
      · replace hf := (if_neg c91).symm.trans hf
        have nc83 : x1.toInt ≠ 106 := fun q => c83 (Int32.toInt_inj.mp (q.trans (by decide)))
        have nc87 : x1.toInt ≠ 109 := fun q => c87 (Int32.toInt_inj.mp (q.trans (by decide)))
        have nc91 : x1.toInt ≠ 112 := fun q => c91 (Int32.toInt_inj.mp (q.trans (by decide)))
        refine lv_lookup (tgt := 76) (off := 75) hx hb dX8_mayBegin_1 (by decide) (by simp [Op.lookupswitch.offset, List.find?, beq_false_of_ne nc83, beq_false_of_ne (Ne.symm nc83), nc83, Ne.symm nc83, beq_false_of_ne nc87, beq_false_of_ne (Ne.symm nc87), nc87, Ne.symm nc87, beq_false_of_ne nc91, beq_false_of_ne (Ne.symm nc91), nc91, Ne.symm nc91]) (by decide) ?_
        refine lv_iconst (v := 0) hx hb dX8_mayBegin_76 (by decide) ?_
        replace hf := Option.some.inj hf
        subst hf
        exact eZ X hw (show (0 : Int32) = 0 ∨ (0 : Int32) = 1 by decide) hr hlk dX8_mayBegin_77

abbrev rmX8_readItem : Room := { frames := 5, cells := 0, slots := 0, locals := 109 }
theorem hd_X8_readItem : Hd yX8_readItem RX8 0 := by decide +kernel
def gX8_readItem_21   (M : Mem) : Option (Mem) := (some (us M 197 19 1)).bind fun M97 => some (M97)
def gX8_readItem_95   (y0 : Int32) (M : Mem) : Option (Mem) := (pfZ M 197 19 y0).bind fun M109 => if (M109 197 19) = 0 then ((gX8_next M109).bind fun u111 => some (u111)) else (some (M109))
def gX8_readItem_90   (M : Mem) : Option (Mem) := gX8_readItem_95 1 M
def gX8_readItem_74   (M : Mem) : Option (Mem) := if (M 197 19) = 0 then (if (M 197 17) = 3 then (gX8_readItem_95 0 M) else (gX8_readItem_90 M)) else (gX8_readItem_90 M)
def gX8_readItem (M : Mem) : Option (Mem) := (some (M 197 18)).bind fun z95 => if (M 197 17) = 1 then ((gX8_mayBegin z95 M).bind fun u98 => if u98 = 0 then (gX8_readItem_21 M) else ((gX8_next M).bind fun u101 => if z95 = 112 then ((gX8_readOne u101).bind fun u117 => gX8_readItem_74 u117) else (if z95 = 109 then ((gX8_takesNumber 1 12 u101).bind fun u114 => (some (us u114.2 197 25 u114.1)).bind fun M116 => gX8_readItem_74 M116) else ((gX8_takesNumber 0 3 u101).bind fun u105 => (some (us u105.2 197 26 u105.1)).bind fun M107 => gX8_readItem_74 M107)))) else (gX8_readItem_21 M)
set_option maxHeartbeats 4000000 in
set_option maxRecDepth 100000 in
theorem tX8_readItem_21 {p : Program} {l : Launch} {e : Env} {s : State} {m : MethodId} {args : Array Value} {below : List Frame} {meth : Method} {c : Code} {E : EE} {b : Nat} {MC : Mem} {TC : Int64} {TM : Int64} {res : Mem} (X : CX E p s m args c cX8_readItem 2 RX8) (hr : meth.sig.returnType = none) (hlk : meth.locks = false)    : ∀ (M : Mem), gX8_readItem_21 M = some res → ∀ (H : Heap) (locs : List Loc) (ls : Array Slot), WW E b MC TC M TM s H locs → lv_has ls 2 [(0, .ref (b + 197))] → W p l e rmX8_readItem s m args below meth c H locs 0 0 (MQ below (va_Qv (fun (_ : Unit) => True) (fun _ t => PW E b MC TC res TM t) (AA b)) args s 0 0 (AA b)) (F0 m 21 ls []) := by
  have hx := X.1
  have hb := X.2.1
  intro M hf H locs ls hw hl
  rw [gX8_readItem_21] at hf
  refine lv_aload_n hx hb dX8_readItem_21 rfl (lv_at hl 0 rfl) ?_
  refine lv_iconst (v := 1) hx hb dX8_readItem_22 (by decide) ?_
  obtain ⟨M97, eM97, hf⟩ := ob hf
  refine pt_X8_19 X hw kk_197 (by decide) mw_740 dX8_readItem_23 (fun H locs hw => ?_)
  rw [Option.some.inj eM97] at hw
  replace hf := Option.some.inj hf
  subst hf
  exact eV X hw hr hlk dX8_readItem_26
set_option maxHeartbeats 4000000 in
set_option maxRecDepth 100000 in
theorem tX8_readItem_95 {p : Program} {l : Launch} {e : Env} {s : State} {m : MethodId} {args : Array Value} {below : List Frame} {meth : Method} {c : Code} {E : EE} {b : Nat} {MC : Mem} {TC : Int64} {TM : Int64} {res : Mem} (X : CX E p s m args c cX8_readItem 2 RX8) (hr : meth.sig.returnType = none) (hlk : meth.locks = false)    : ∀ (y0 : Int32) (M : Mem), gX8_readItem_95 y0 M = some res → ∀ (H : Heap) (locs : List Loc) (ls : Array Slot), WW E b MC TC M TM s H locs → lv_has ls 2 [(0, .ref (b + 197))] → W p l e rmX8_readItem s m args below meth c H locs 0 0 (MQ below (va_Qv (fun (_ : Unit) => True) (fun _ t => PW E b MC TC res TM t) (AA b)) args s 0 0 (AA b)) (F0 m 95 ls [.int y0, .ref (b + 197)]) := by
  have hx := X.1
  have hb := X.2.1
  intro y0 M hf H locs ls hw hl
  rw [gX8_readItem_95] at hf
  obtain ⟨M109, eM109, hf⟩ := ob hf
  refine pt_X8_19 X hw kk_197 (pfZ_s eM109).1 mw_740 dX8_readItem_95 (fun H locs hw => ?_)
  rw [(pfZ_s eM109).2] at hw
  refine lv_aload_n hx hb dX8_readItem_98 rfl (lv_at hl 0 rfl) ?_
  refine gt_X8 X hw 19 kk_197 rfl (by decide) mw_740 rfl dX8_readItem_99 ?_
  refine lv_if_ne (tgt := 109) hx hb dX8_readItem_102 (by decide) (fun c110 => ?_) (fun c110 => ?_)
  · replace hf := (if_neg c110).symm.trans hf
    replace hf := Option.some.inj hf
    subst hf
    exact eV X hw hr hlk dX8_readItem_109
  · replace hf := (if_pos c110).symm.trans hf
    refine lv_aload_n hx hb dX8_readItem_105 rfl (lv_at hl 0 rfl) ?_
    obtain ⟨u111, q112, hf⟩ := ob hf
    refine cVv (As := []) X hw (ctX8_next l E b  q112) ⟨mw_830, mw_832, mw_30, mw_61, mw_833⟩ hd_X8_next ⟨Nat.le_of_ble_eq_true rfl, Nat.le_of_ble_eq_true rfl, rfl, rfl⟩ (kdk kk_197 (by decide)) (ce_X8 E _ _ _ _ kk_197) (show vwCl[8]? = some (RX8, TX8, 31) from rfl) rfl hl.1 rfl (Nat.le_of_ble_eq_true rfl) dX8_readItem_106 (fun H locs hw => ?_)
    replace hf := Option.some.inj hf
    subst hf
    exact eV X hw hr hlk dX8_readItem_109
set_option maxHeartbeats 4000000 in
set_option maxRecDepth 100000 in
theorem tX8_readItem_90 {p : Program} {l : Launch} {e : Env} {s : State} {m : MethodId} {args : Array Value} {below : List Frame} {meth : Method} {c : Code} {E : EE} {b : Nat} {MC : Mem} {TC : Int64} {TM : Int64} {res : Mem} (X : CX E p s m args c cX8_readItem 2 RX8) (hr : meth.sig.returnType = none) (hlk : meth.locks = false)    : ∀ (M : Mem), gX8_readItem_90 M = some res → ∀ (H : Heap) (locs : List Loc) (ls : Array Slot), WW E b MC TC M TM s H locs → lv_has ls 2 [(0, .ref (b + 197))] → W p l e rmX8_readItem s m args below meth c H locs 0 0 (MQ below (va_Qv (fun (_ : Unit) => True) (fun _ t => PW E b MC TC res TM t) (AA b)) args s 0 0 (AA b)) (F0 m 90 ls [.ref (b + 197)]) := by
  have hx := X.1
  have hb := X.2.1
  intro M hf H locs ls hw hl
  rw [gX8_readItem_90] at hf
  refine lv_iconst (v := 1) hx hb dX8_readItem_90 (by decide) ?_
  refine lv_goto (tgt := 95) hx hb dX8_readItem_91 (by decide) ?_
  exact tX8_readItem_95 X hr hlk 1 M hf H locs ls hw (lv_sub hl [0] rfl)
set_option maxHeartbeats 4000000 in
set_option maxRecDepth 100000 in
theorem tX8_readItem_74 {p : Program} {l : Launch} {e : Env} {s : State} {m : MethodId} {args : Array Value} {below : List Frame} {meth : Method} {c : Code} {E : EE} {b : Nat} {MC : Mem} {TC : Int64} {TM : Int64} {res : Mem} (X : CX E p s m args c cX8_readItem 2 RX8) (hr : meth.sig.returnType = none) (hlk : meth.locks = false)    : ∀ (M : Mem), gX8_readItem_74 M = some res → ∀ (H : Heap) (locs : List Loc) (ls : Array Slot), WW E b MC TC M TM s H locs → lv_has ls 2 [(0, .ref (b + 197))] → W p l e rmX8_readItem s m args below meth c H locs 0 0 (MQ below (va_Qv (fun (_ : Unit) => True) (fun _ t => PW E b MC TC res TM t) (AA b)) args s 0 0 (AA b)) (F0 m 74 ls []) := by
  have hx := X.1
  have hb := X.2.1
  intro M hf H locs ls hw hl
  rw [gX8_readItem_74] at hf
  refine lv_aload_n hx hb dX8_readItem_74 rfl (lv_at hl 0 rfl) ?_
  refine lv_aload_n hx hb dX8_readItem_75 rfl (lv_at hl 0 rfl) ?_
  refine gt_X8 X hw 19 kk_197 rfl (by decide) mw_740 rfl dX8_readItem_76 ?_
  refine lv_if_ne (tgt := 90) hx hb dX8_readItem_79 (by decide) (fun c108 => ?_) (fun c108 => ?_)
  · replace hf := (if_neg c108).symm.trans hf
    exact tX8_readItem_90 X hr hlk M hf H locs ls hw (lv_sub hl [0] rfl)
  · replace hf := (if_pos c108).symm.trans hf
    refine lv_aload_n hx hb dX8_readItem_82 rfl (lv_at hl 0 rfl) ?_
    refine gt_X8 X hw 17 kk_197 rfl (by decide) mw_738 rfl dX8_readItem_83 ?_
    refine lv_iconst (v := 3) hx hb dX8_readItem_86 (by decide) ?_
    refine lv_icmp_eq (tgt := 94) hx hb dX8_readItem_87 (by decide) (fun c113 => ?_) (fun c113 => ?_)
    · replace hf := (if_pos c113).symm.trans hf
      refine lv_iconst (v := 0) hx hb dX8_readItem_94 (by decide) ?_
      exact tX8_readItem_95 X hr hlk 0 M hf H locs ls hw (lv_sub hl [0] rfl)
    · replace hf := (if_neg c113).symm.trans hf
      exact tX8_readItem_90 X hr hlk M hf H locs ls hw (lv_sub hl [0] rfl)
set_option maxHeartbeats 4000000 in
set_option maxRecDepth 100000 in
theorem ctX8_readItem (l : Launch) (E : EE) (b : Nat) {MC : Mem} {TC : Int64} {TM : Int64} {M : Mem} {res : Mem}  (hf : gX8_readItem M = some res) : MetV l E b yX8_readItem (.code yX8_readItem cX8_readItem 2 none) rmX8_readItem [.ref (b + 197)] MC TC M TM MC TC res TM := by
  refine Met.ofW (cc := cX8_readItem) (maxL := 2) (ret := none) (by decide) rfl ?_
  intro p e s m args below meth c s₁ B hml hv
  obtain ⟨rfl, hP, hK⟩ := hv
  have hx := B.exec
  have hb := B.bytes
  have X : CX E p s m _ c cX8_readItem 2 RX8 := ⟨hx, hb, hml, findClass_of_methodNamed B.named, fun w h => atoms_spec (ws := _ :: wt) B.pre w (List.mem_cons_of_mem _ h), hK⟩
  have hr := B.returns
  have hlk := B.notSynchronized
  have hw : WW E b MC TC M TM s s.heap [] := ⟨hP, va_S.rf⟩
  have hl := lv_entry ([.ref (b + 197)]) (n := 2) (Nat.le_of_ble_eq_true rfl)
  rw [lg_entry_eq]
  generalize (lg_sl ([.ref (b + 197)]) ++ List.replicate (2 - (lg_sl ([.ref (b + 197)])).length) Slot.unset).toArray = ls at hl ⊢
  have hl : lv_has ls 2 [(0, .ref (b + 197))] := hl
  obtain ⟨H, hH⟩ : ∃ H, H = s.heap := ⟨_, rfl⟩
  obtain ⟨locs, hL⟩ : ∃ L : List Loc, L = [] := ⟨_, rfl⟩
  rw [← hH, ← hL] at hw
  suffices hg : W p l e rmX8_readItem s m _ below meth c H locs 0 0 (MQ below (va_Qv (fun (_ : Unit) => True) (fun _ t => PW E b MC TC res TM t) (AA b)) _ s 0 0 (AA b)) (F0 m 0 ls []) by rw [hH, hL] at hg; exact hg
  clear hH hL
  rw [gX8_readItem] at hf
  refine lv_aload_n hx hb dX8_readItem_0 rfl (lv_at hl 0 rfl) ?_
  refine gt_X8 X hw 18 kk_197 rfl (by decide) mw_739 rfl dX8_readItem_1 ?_
  refine lv_topi (fun z95 ez95 => ?_)
  replace hf := nmb hf ez95
  refine lv_istore_n (lv' := [(1, .int z95), (0, .ref (b + 197))]) hx hb dX8_readItem_4 rfl hl (by decide) rfl (fun ls hl => ?_)
  refine lv_aload_n hx hb dX8_readItem_5 rfl (lv_at hl 1 rfl) ?_
  refine gt_X8 X hw 17 kk_197 rfl (by decide) mw_738 rfl dX8_readItem_6 ?_
  refine lv_iconst (v := 1) hx hb dX8_readItem_9 (by decide) ?_
  refine lv_icmp_ne (tgt := 21) hx hb dX8_readItem_10 (by decide) (fun c96 => ?_) (fun c96 => ?_)
  · replace hf := (if_neg c96).symm.trans hf
    exact tX8_readItem_21 X hr hlk M hf H locs ls hw (lv_sub hl [1] rfl)
  · replace hf := (if_pos c96).symm.trans hf
    refine lv_aload_n hx hb dX8_readItem_13 rfl (lv_at hl 1 rfl) ?_
    refine lv_iload_n hx hb dX8_readItem_14 rfl (lv_at hl 0 rfl) ?_
    obtain ⟨u98, q99, hf⟩ := ob hf
    refine cVi (As := [.int z95]) X hw (ctX8_mayBegin l E b  q99) ⟨mw_848, mw_850, mw_33, mw_61, mw_851⟩ hd_X8_mayBegin ⟨Nat.le_of_ble_eq_true rfl, Nat.le_of_ble_eq_true rfl, rfl, rfl⟩ (kdk kk_197 (by decide)) (ce_X8 E _ _ _ _ kk_197) (show vwCl[8]? = some (RX8, TX8, 31) from rfl) rfl hl.1 rfl (Nat.le_of_ble_eq_true rfl) dX8_readItem_15 (fun H locs hw => ?_)
    refine lv_if_ne (tgt := 27) hx hb dX8_readItem_18 (by decide) (fun c100 => ?_) (fun c100 => ?_)
    · replace hf := (if_neg c100).symm.trans hf
      refine lv_aload_n hx hb dX8_readItem_27 rfl (lv_at hl 1 rfl) ?_
      obtain ⟨u101, q102, hf⟩ := ob hf
      refine cVv (As := []) X hw (ctX8_next l E b  q102) ⟨mw_830, mw_832, mw_30, mw_61, mw_833⟩ hd_X8_next ⟨Nat.le_of_ble_eq_true rfl, Nat.le_of_ble_eq_true rfl, rfl, rfl⟩ (kdk kk_197 (by decide)) (ce_X8 E _ _ _ _ kk_197) (show vwCl[8]? = some (RX8, TX8, 31) from rfl) rfl hl.1 rfl (Nat.le_of_ble_eq_true rfl) dX8_readItem_28 (fun H locs hw => ?_)
      refine lv_iload_n hx hb dX8_readItem_31 rfl (lv_at hl 0 rfl) ?_
      refine lv_bipush (v := 112) hx hb dX8_readItem_32 (by decide) ?_
      refine lv_icmp_ne (tgt := 44) hx hb dX8_readItem_34 (by decide) (fun c103 => ?_) (fun c103 => ?_)
      · replace hf := (if_neg c103).symm.trans hf
        refine lv_iload_n hx hb dX8_readItem_44 rfl (lv_at hl 0 rfl) ?_
        refine lv_bipush (v := 109) hx hb dX8_readItem_45 (by decide) ?_
        refine lv_icmp_ne (tgt := 64) hx hb dX8_readItem_47 (by decide) (fun c104 => ?_) (fun c104 => ?_)
        · replace hf := (if_neg c104).symm.trans hf
          refine lv_aload_n hx hb dX8_readItem_64 rfl (lv_at hl 1 rfl) ?_
          refine lv_aload_n hx hb dX8_readItem_65 rfl (lv_at hl 1 rfl) ?_
          refine lv_iconst (v := 0) hx hb dX8_readItem_66 (by decide) ?_
          refine lv_iconst (v := 3) hx hb dX8_readItem_67 (by decide) ?_
          obtain ⟨u105, q106, hf⟩ := ob hf
          refine cVi (As := [.int 0, .int 3]) X hw (ctX8_takesNumber l E b  q106) ⟨mw_856, mw_858, mw_35, mw_61, mw_859⟩ hd_X8_takesNumber ⟨Nat.le_of_ble_eq_true rfl, Nat.le_of_ble_eq_true rfl, rfl, rfl⟩ (kdk kk_197 (by decide)) (ce_X8 E _ _ _ _ kk_197) (show vwCl[8]? = some (RX8, TX8, 31) from rfl) rfl hl.1 rfl (Nat.le_of_ble_eq_true rfl) dX8_readItem_68 (fun H locs hw => ?_)
          obtain ⟨M107, eM107, hf⟩ := ob hf
          refine pt_X8_26 X hw kk_197 mw_747 dX8_readItem_71 (fun H locs hw => ?_)
          rw [Option.some.inj eM107] at hw
          exact tX8_readItem_74 X hr hlk M107 hf H locs ls hw (lv_sub hl [1] rfl)
        · replace hf := (if_pos c104).symm.trans hf
          refine lv_aload_n hx hb dX8_readItem_50 rfl (lv_at hl 1 rfl) ?_
          refine lv_aload_n hx hb dX8_readItem_51 rfl (lv_at hl 1 rfl) ?_
          refine lv_iconst (v := 1) hx hb dX8_readItem_52 (by decide) ?_
          refine lv_bipush (v := 12) hx hb dX8_readItem_53 (by decide) ?_
          obtain ⟨u114, q115, hf⟩ := ob hf
          refine cVi (As := [.int 1, .int 12]) X hw (ctX8_takesNumber l E b  q115) ⟨mw_856, mw_858, mw_35, mw_61, mw_859⟩ hd_X8_takesNumber ⟨Nat.le_of_ble_eq_true rfl, Nat.le_of_ble_eq_true rfl, rfl, rfl⟩ (kdk kk_197 (by decide)) (ce_X8 E _ _ _ _ kk_197) (show vwCl[8]? = some (RX8, TX8, 31) from rfl) rfl hl.1 rfl (Nat.le_of_ble_eq_true rfl) dX8_readItem_55 (fun H locs hw => ?_)
          obtain ⟨M116, eM116, hf⟩ := ob hf
          refine pt_X8_25 X hw kk_197 mw_746 dX8_readItem_58 (fun H locs hw => ?_)
          rw [Option.some.inj eM116] at hw
          refine lv_goto (tgt := 74) hx hb dX8_readItem_61 (by decide) ?_
          exact tX8_readItem_74 X hr hlk M116 hf H locs ls hw (lv_sub hl [1] rfl)
      · replace hf := (if_pos c103).symm.trans hf
        refine lv_aload_n hx hb dX8_readItem_37 rfl (lv_at hl 1 rfl) ?_
        obtain ⟨u117, q118, hf⟩ := ob hf
        refine cVv (As := []) X hw (ctX8_readOne l E b  q118) ⟨mw_852, mw_854, mw_34, mw_61, mw_855⟩ hd_X8_readOne ⟨Nat.le_of_ble_eq_true rfl, Nat.le_of_ble_eq_true rfl, rfl, rfl⟩ (kdk kk_197 (by decide)) (ce_X8 E _ _ _ _ kk_197) (show vwCl[8]? = some (RX8, TX8, 31) from rfl) rfl hl.1 rfl (Nat.le_of_ble_eq_true rfl) dX8_readItem_38 (fun H locs hw => ?_)
        refine lv_goto (tgt := 74) hx hb dX8_readItem_41 (by decide) ?_
        exact tX8_readItem_74 X hr hlk u117 hf H locs ls hw (lv_sub hl [1] rfl)
    · replace hf := (if_pos c100).symm.trans hf
      exact tX8_readItem_21 X hr hlk M hf H locs ls hw (lv_sub hl [1] rfl)
