abbrev rmX8_keep : Room := { frames := 1, cells := 0, slots := 0, locals := 22 }
theorem hd_X8_keep : Hd yX8_keep RX8 1 := by decide +kernel
def gX8_keep_13   : Nat → Int32 → Int32 → Mem → Option (Int32 × Mem)
  | 0, _, _, _ => none
  | n + 1, x1, x2, M => if 1233 ≤ x2 then ((stZ 2 M 203 x1 1).bind fun M5 => (ldA 1233 (M5 201) 0).bind fun v7 => some (v7, M5)) else ((ldA 1233 (M 201) x2).bind fun v9 => (stA 2466 M 202 ((1233 * x1) + x2) v9).bind fun M11 => (some (x2 + 1)).bind fun z13 => (gX8_keep_13 n) x1 z13 M11)
def gX8_keep (x1 : Int32) (M : Mem) : Option (Int32 × Mem) := (gX8_in x1 0 1).bind fun u1 => if u1 = 0 then (some ((-1), M)) else (gX8_keep_13 FU x1 0 M)
set_option maxHeartbeats 4000000 in
set_option maxRecDepth 100000 in
theorem tX8_keep_13 {p : Program} {l : Launch} {e : Env} {s : State} {m : MethodId} {args : Array Value} {below : List Frame} {meth : Method} {c : Code} {E : EE} {b : Nat} {MC : Mem} {TC : Int64} {TM : Int64} {res : Int32 × Mem} (X : CX E p s m args c cX8_keep 3 RX8) (hr : meth.sig.returnType = (some .int)) (hlk : meth.locks = false)    : ∀ (n : Nat) (x1 : Int32) (x2 : Int32) (M : Mem), gX8_keep_13 n x1 x2 M = some res → ∀ (H : Heap) (locs : List Loc) (ls : Array Slot), WW E b MC TC M TM s H locs → lv_has ls 3 [(0, .ref (b + 197)), (1, .int x1), (2, .int x2)] → W p l e rmX8_keep s m args below meth c H locs 0 0 (MQ below (va_Qi (fun x (_ : Unit) => x = res.1) (fun _ t => PW E b MC TC res.2 TM t) (AA b)) args s 0 0 (AA b)) (F0 m 13 ls []) := by
  have hx := X.1
  have hb := X.2.1
  intro n
  induction n with
  | zero =>
    intro x1 x2 M hf
    cases (show (none : Option (Int32 × Mem)) = some res from hf)
  | succ n ih =>
    intro x1 x2 M hf H locs ls hw hl
    rw [gX8_keep_13] at hf
    refine lv_iload_n hx hb dX8_keep_13 rfl (lv_at hl 2 rfl) ?_
    refine lv_sipush (v := 1233) hx hb dX8_keep_14 (by decide) ?_
    refine lv_icmp_ge (tgt := 44) hx hb dX8_keep_17 (by decide) (fun c4 => ?_) (fun c4 => ?_)
    · replace hf := (if_pos c4).symm.trans hf
      refine lv_aload_n hx hb dX8_keep_44 rfl (lv_at hl 0 rfl) ?_
      refine gt_X8 X hw 7 kk_197 rfl (by decide) mw_728 rfl dX8_keep_45 ?_
      refine lv_iload_n hx hb dX8_keep_48 rfl (lv_at hl 1 rfl) ?_
      refine lv_iconst (v := 1) hx hb dX8_keep_49 (by decide) ?_
      obtain ⟨M5, q6, hf⟩ := ob hf
      refine zstM X hw kdv_203 q6 dX8_keep_50 (fun H locs hw => ?_)
      refine lv_aload_n hx hb dX8_keep_51 rfl (lv_at hl 0 rfl) ?_
      refine gt_X8 X hw 5 kk_197 rfl (by decide) mw_726 rfl dX8_keep_52 ?_
      refine lv_iconst (v := 0) hx hb dX8_keep_55 (by decide) ?_
      obtain ⟨v7, q8, hf⟩ := ob hf
      refine aldM X hw kdv_201 q8 dX8_keep_56 ?_
      replace hf := Option.some.inj hf
      subst hf
      exact eI X hw hr hlk dX8_keep_57
    · replace hf := (if_neg c4).symm.trans hf
      refine lv_aload_n hx hb dX8_keep_20 rfl (lv_at hl 0 rfl) ?_
      refine gt_X8 X hw 6 kk_197 rfl (by decide) mw_727 rfl dX8_keep_21 ?_
      refine lv_sipush (v := 1233) hx hb dX8_keep_24 (by decide) ?_
      refine lv_iload_n hx hb dX8_keep_27 rfl (lv_at hl 1 rfl) ?_
      refine lv_imul hx hb dX8_keep_28 ?_
      refine lv_iload_n hx hb dX8_keep_29 rfl (lv_at hl 2 rfl) ?_
      refine lv_iadd hx hb dX8_keep_30 ?_
      refine lv_aload_n hx hb dX8_keep_31 rfl (lv_at hl 0 rfl) ?_
      refine gt_X8 X hw 5 kk_197 rfl (by decide) mw_726 rfl dX8_keep_32 ?_
      refine lv_iload_n hx hb dX8_keep_35 rfl (lv_at hl 2 rfl) ?_
      obtain ⟨v9, q10, hf⟩ := ob hf
      refine aldM X hw kdv_201 q10 dX8_keep_36 ?_
      obtain ⟨M11, q12, hf⟩ := ob hf
      refine astM X hw kdv_202 q12 dX8_keep_37 (fun H locs hw => ?_)
      obtain ⟨z13, ez13⟩ : ∃ y : Int32, y = x2 + 1 := ⟨_, rfl⟩
      replace hf := nmb hf ez13
      refine lv_iinc (v := z13) (lv' := [(2, .int z13), (0, .ref (b + 197)), (1, .int x1)]) hx hb dX8_keep_38 hl (k := 2) rfl (by rw [ez13]; rfl) (by decide) rfl (fun ls hl => ?_)
      refine lv_goto (tgt := 13) hx hb dX8_keep_41 (by decide) ?_
      exact ih x1 z13 M11 hf H locs ls hw (lv_sub hl [1, 2, 0] rfl)
set_option maxHeartbeats 4000000 in
set_option maxRecDepth 100000 in
theorem ctX8_keep (l : Launch) (E : EE) (b : Nat) {MC : Mem} {TC : Int64} {TM : Int64} {x1 : Int32} {M : Mem} {res : Int32 × Mem}  (hf : gX8_keep x1 M = some res) : MetI l E b yX8_keep (.code yX8_keep cX8_keep 3 (some .int)) rmX8_keep [.ref (b + 197), .int x1] MC TC M TM res.1 MC TC res.2 TM := by
  refine Met.ofW (cc := cX8_keep) (maxL := 3) (ret := (some .int)) (by decide) rfl ?_
  intro p e s m args below meth c s₁ B hml hv
  obtain ⟨rfl, hP, hK⟩ := hv
  have hx := B.exec
  have hb := B.bytes
  have X : CX E p s m _ c cX8_keep 3 RX8 := ⟨hx, hb, hml, findClass_of_methodNamed B.named, fun w h => atoms_spec (ws := _ :: wt) B.pre w (List.mem_cons_of_mem _ h), hK⟩
  have hr := B.returns
  have hlk := B.notSynchronized
  have hw : WW E b MC TC M TM s s.heap [] := ⟨hP, va_S.rf⟩
  have hl := lv_entry ([.ref (b + 197), .int x1]) (n := 3) (Nat.le_of_ble_eq_true rfl)
  rw [lg_entry_eq]
  generalize (lg_sl ([.ref (b + 197), .int x1]) ++ List.replicate (3 - (lg_sl ([.ref (b + 197), .int x1])).length) Slot.unset).toArray = ls at hl ⊢
  have hl : lv_has ls 3 [(0, .ref (b + 197)), (1, .int x1)] := hl
  obtain ⟨H, hH⟩ : ∃ H, H = s.heap := ⟨_, rfl⟩
  obtain ⟨locs, hL⟩ : ∃ L : List Loc, L = [] := ⟨_, rfl⟩
  rw [← hH, ← hL] at hw
  suffices hg : W p l e rmX8_keep s m _ below meth c H locs 0 0 (MQ below (va_Qi (fun x (_ : Unit) => x = res.1) (fun _ t => PW E b MC TC res.2 TM t) (AA b)) _ s 0 0 (AA b)) (F0 m 0 ls []) by rw [hH, hL] at hg; exact hg
  clear hH hL
  rw [gX8_keep] at hf
  refine lv_iload_n hx hb dX8_keep_0 rfl (lv_at hl 1 rfl) ?_
  refine lv_iconst (v := 0) hx hb dX8_keep_1 (by decide) ?_
  refine lv_iconst (v := 1) hx hb dX8_keep_2 (by decide) ?_
  obtain ⟨u1, q2, hf⟩ := ob hf
  refine cSi (As := [.int x1, .int 0, .int 1]) X hw (ctX8_in l E b  q2) ⟨mw_819, mw_820, mw_61, mw_821⟩ hd_X8_in ⟨Nat.le_of_ble_eq_true rfl, Nat.le_of_ble_eq_true rfl, rfl, rfl⟩ rfl hl.1 rfl (Nat.le_of_ble_eq_true rfl) dX8_keep_3 (fun H locs hw => ?_)
  refine lv_if_ne (tgt := 11) hx hb dX8_keep_6 (by decide) (fun c3 => ?_) (fun c3 => ?_)
  · replace hf := (if_neg c3).symm.trans hf
    refine lv_iconst (v := 0) hx hb dX8_keep_11 (by decide) ?_
    refine lv_istore_n (lv' := [(2, .int 0), (0, .ref (b + 197)), (1, .int x1)]) hx hb dX8_keep_12 rfl hl (by decide) rfl (fun ls hl => ?_)
    exact tX8_keep_13 X hr hlk FU x1 0 M hf H locs ls hw (lv_sub hl [1, 2, 0] rfl)
  · replace hf := (if_pos c3).symm.trans hf
    refine lv_iconst (v := (-1)) hx hb dX8_keep_9 (by decide) ?_
    replace hf := Option.some.inj hf
    subst hf
    exact eI X hw hr hlk dX8_keep_10

abbrev rmX8_back : Room := { frames := 1, cells := 0, slots := 0, locals := 22 }
theorem hd_X8_back : Hd yX8_back RX8 1 := by decide +kernel
def gX8_back_25   : Nat → Int32 → Int32 → Mem → Option (Int32 × Mem)
  | 0, _, _, _ => none
  | n + 1, x1, x2, M => if 1233 ≤ x2 then ((ldA 1233 (M 201) 0).bind fun v21 => some (v21, M)) else ((ldA 2466 (M 202) ((1233 * x1) + x2)).bind fun v23 => (stA 1233 M 201 x2 v23).bind fun M25 => (some (x2 + 1)).bind fun z27 => (gX8_back_25 n) x1 z27 M25)
def gX8_back (x1 : Int32) (M : Mem) : Option (Int32 × Mem) := (gX8_in x1 0 1).bind fun u14 => if u14 = 0 then (some ((-1), M)) else ((ldA 2 (M 203) x1).bind fun v17 => if v17 = 0 then (some ((-2), M)) else (gX8_back_25 FU x1 0 M))
set_option maxHeartbeats 4000000 in
set_option maxRecDepth 100000 in
theorem tX8_back_25 {p : Program} {l : Launch} {e : Env} {s : State} {m : MethodId} {args : Array Value} {below : List Frame} {meth : Method} {c : Code} {E : EE} {b : Nat} {MC : Mem} {TC : Int64} {TM : Int64} {res : Int32 × Mem} (X : CX E p s m args c cX8_back 3 RX8) (hr : meth.sig.returnType = (some .int)) (hlk : meth.locks = false)    : ∀ (n : Nat) (x1 : Int32) (x2 : Int32) (M : Mem), gX8_back_25 n x1 x2 M = some res → ∀ (H : Heap) (locs : List Loc) (ls : Array Slot), WW E b MC TC M TM s H locs → lv_has ls 3 [(0, .ref (b + 197)), (1, .int x1), (2, .int x2)] → W p l e rmX8_back s m args below meth c H locs 0 0 (MQ below (va_Qi (fun x (_ : Unit) => x = res.1) (fun _ t => PW E b MC TC res.2 TM t) (AA b)) args s 0 0 (AA b)) (F0 m 25 ls []) := by
  have hx := X.1
  have hb := X.2.1
  intro n
  induction n with
  | zero =>
    intro x1 x2 M hf
    cases (show (none : Option (Int32 × Mem)) = some res from hf)
  | succ n ih =>
    intro x1 x2 M hf H locs ls hw hl
    rw [gX8_back_25] at hf
    refine lv_iload_n hx hb dX8_back_25 rfl (lv_at hl 2 rfl) ?_
    refine lv_sipush (v := 1233) hx hb dX8_back_26 (by decide) ?_
    refine lv_icmp_ge (tgt := 56) hx hb dX8_back_29 (by decide) (fun c20 => ?_) (fun c20 => ?_)
    · replace hf := (if_pos c20).symm.trans hf
      refine lv_aload_n hx hb dX8_back_56 rfl (lv_at hl 0 rfl) ?_
      refine gt_X8 X hw 5 kk_197 rfl (by decide) mw_726 rfl dX8_back_57 ?_
      refine lv_iconst (v := 0) hx hb dX8_back_60 (by decide) ?_
      obtain ⟨v21, q22, hf⟩ := ob hf
      refine aldM X hw kdv_201 q22 dX8_back_61 ?_
      replace hf := Option.some.inj hf
      subst hf
      exact eI X hw hr hlk dX8_back_62
    · replace hf := (if_neg c20).symm.trans hf
      refine lv_aload_n hx hb dX8_back_32 rfl (lv_at hl 0 rfl) ?_
      refine gt_X8 X hw 5 kk_197 rfl (by decide) mw_726 rfl dX8_back_33 ?_
      refine lv_iload_n hx hb dX8_back_36 rfl (lv_at hl 2 rfl) ?_
      refine lv_aload_n hx hb dX8_back_37 rfl (lv_at hl 0 rfl) ?_
      refine gt_X8 X hw 6 kk_197 rfl (by decide) mw_727 rfl dX8_back_38 ?_
      refine lv_sipush (v := 1233) hx hb dX8_back_41 (by decide) ?_
      refine lv_iload_n hx hb dX8_back_44 rfl (lv_at hl 1 rfl) ?_
      refine lv_imul hx hb dX8_back_45 ?_
      refine lv_iload_n hx hb dX8_back_46 rfl (lv_at hl 2 rfl) ?_
      refine lv_iadd hx hb dX8_back_47 ?_
      obtain ⟨v23, q24, hf⟩ := ob hf
      refine aldM X hw kdv_202 q24 dX8_back_48 ?_
      obtain ⟨M25, q26, hf⟩ := ob hf
      refine astM X hw kdv_201 q26 dX8_back_49 (fun H locs hw => ?_)
      obtain ⟨z27, ez27⟩ : ∃ y : Int32, y = x2 + 1 := ⟨_, rfl⟩
      replace hf := nmb hf ez27
      refine lv_iinc (v := z27) (lv' := [(2, .int z27), (0, .ref (b + 197)), (1, .int x1)]) hx hb dX8_back_50 hl (k := 2) rfl (by rw [ez27]; rfl) (by decide) rfl (fun ls hl => ?_)
      refine lv_goto (tgt := 25) hx hb dX8_back_53 (by decide) ?_
      exact ih x1 z27 M25 hf H locs ls hw (lv_sub hl [1, 2, 0] rfl)
set_option maxHeartbeats 4000000 in
set_option maxRecDepth 100000 in
theorem ctX8_back (l : Launch) (E : EE) (b : Nat) {MC : Mem} {TC : Int64} {TM : Int64} {x1 : Int32} {M : Mem} {res : Int32 × Mem}  (hf : gX8_back x1 M = some res) : MetI l E b yX8_back (.code yX8_back cX8_back 3 (some .int)) rmX8_back [.ref (b + 197), .int x1] MC TC M TM res.1 MC TC res.2 TM := by
  refine Met.ofW (cc := cX8_back) (maxL := 3) (ret := (some .int)) (by decide) rfl ?_
  intro p e s m args below meth c s₁ B hml hv
  obtain ⟨rfl, hP, hK⟩ := hv
  have hx := B.exec
  have hb := B.bytes
  have X : CX E p s m _ c cX8_back 3 RX8 := ⟨hx, hb, hml, findClass_of_methodNamed B.named, fun w h => atoms_spec (ws := _ :: wt) B.pre w (List.mem_cons_of_mem _ h), hK⟩
  have hr := B.returns
  have hlk := B.notSynchronized
  have hw : WW E b MC TC M TM s s.heap [] := ⟨hP, va_S.rf⟩
  have hl := lv_entry ([.ref (b + 197), .int x1]) (n := 3) (Nat.le_of_ble_eq_true rfl)
  rw [lg_entry_eq]
  generalize (lg_sl ([.ref (b + 197), .int x1]) ++ List.replicate (3 - (lg_sl ([.ref (b + 197), .int x1])).length) Slot.unset).toArray = ls at hl ⊢
  have hl : lv_has ls 3 [(0, .ref (b + 197)), (1, .int x1)] := hl
  obtain ⟨H, hH⟩ : ∃ H, H = s.heap := ⟨_, rfl⟩
  obtain ⟨locs, hL⟩ : ∃ L : List Loc, L = [] := ⟨_, rfl⟩
  rw [← hH, ← hL] at hw
  suffices hg : W p l e rmX8_back s m _ below meth c H locs 0 0 (MQ below (va_Qi (fun x (_ : Unit) => x = res.1) (fun _ t => PW E b MC TC res.2 TM t) (AA b)) _ s 0 0 (AA b)) (F0 m 0 ls []) by rw [hH, hL] at hg; exact hg
  clear hH hL
  rw [gX8_back] at hf
  refine lv_iload_n hx hb dX8_back_0 rfl (lv_at hl 1 rfl) ?_
  refine lv_iconst (v := 0) hx hb dX8_back_1 (by decide) ?_
  refine lv_iconst (v := 1) hx hb dX8_back_2 (by decide) ?_
  obtain ⟨u14, q15, hf⟩ := ob hf
  refine cSi (As := [.int x1, .int 0, .int 1]) X hw (ctX8_in l E b  q15) ⟨mw_819, mw_820, mw_61, mw_821⟩ hd_X8_in ⟨Nat.le_of_ble_eq_true rfl, Nat.le_of_ble_eq_true rfl, rfl, rfl⟩ rfl hl.1 rfl (Nat.le_of_ble_eq_true rfl) dX8_back_3 (fun H locs hw => ?_)
  refine lv_if_ne (tgt := 11) hx hb dX8_back_6 (by decide) (fun c16 => ?_) (fun c16 => ?_)
  · replace hf := (if_neg c16).symm.trans hf
    refine lv_aload_n hx hb dX8_back_11 rfl (lv_at hl 0 rfl) ?_
    refine gt_X8 X hw 7 kk_197 rfl (by decide) mw_728 rfl dX8_back_12 ?_
    refine lv_iload_n hx hb dX8_back_15 rfl (lv_at hl 1 rfl) ?_
    obtain ⟨v17, q18, hf⟩ := ob hf
    refine zldM X hw kdv_203 q18 dX8_back_16 ?_
    refine lv_if_ne (tgt := 23) hx hb dX8_back_17 (by decide) (fun c19 => ?_) (fun c19 => ?_)
    · replace hf := (if_neg c19).symm.trans hf
      refine lv_iconst (v := 0) hx hb dX8_back_23 (by decide) ?_
      refine lv_istore_n (lv' := [(2, .int 0), (0, .ref (b + 197)), (1, .int x1)]) hx hb dX8_back_24 rfl hl (by decide) rfl (fun ls hl => ?_)
      exact tX8_back_25 X hr hlk FU x1 0 M hf H locs ls hw (lv_sub hl [1, 2, 0] rfl)
    · replace hf := (if_pos c19).symm.trans hf
      refine lv_bipush (v := (-2)) hx hb dX8_back_20 (by decide) ?_
      replace hf := Option.some.inj hf
      subst hf
      exact eI X hw hr hlk dX8_back_22
  · replace hf := (if_pos c16).symm.trans hf
    refine lv_iconst (v := (-1)) hx hb dX8_back_9 (by decide) ?_
    replace hf := Option.some.inj hf
    subst hf
    exact eI X hw hr hlk dX8_back_10

abbrev rmX8_count : Room := { frames := 0, cells := 0, slots := 0, locals := 0 }
theorem hd_X8_count : Hd yX8_count RX8 1 := by decide +kernel
def gX8_count (x1 : Int32) (M : Mem) : Option (Int32) := if x1 = 0 then (some (M 197 0)) else (if x1 = 1 then (some (M 197 4)) else (if x1 = 2 then (some (M 197 8)) else (if x1 = 3 then (some (M 197 10)) else (if x1 = 4 then ((ldA 1233 (M 201) 112).bind fun v33 => some (v33)) else (if x1 = 5 then (some (M 197 14)) else (some ((-1))))))))
set_option maxHeartbeats 4000000 in
set_option maxRecDepth 100000 in
theorem ctX8_count (l : Launch) (E : EE) (b : Nat) {MC : Mem} {TC : Int64} {TM : Int64} {x1 : Int32} {M : Mem} {res : Int32}  (hf : gX8_count x1 M = some res) : MetI l E b yX8_count (.code yX8_count cX8_count 2 (some .int)) rmX8_count [.ref (b + 197), .int x1] MC TC M TM res MC TC M TM := by
  refine Met.ofW (cc := cX8_count) (maxL := 2) (ret := (some .int)) (by decide) rfl ?_
  intro p e s m args below meth c s₁ B hml hv
  obtain ⟨rfl, hP, hK⟩ := hv
  have hx := B.exec
  have hb := B.bytes
  have X : CX E p s m _ c cX8_count 2 RX8 := ⟨hx, hb, hml, findClass_of_methodNamed B.named, fun w h => atoms_spec (ws := _ :: wt) B.pre w (List.mem_cons_of_mem _ h), hK⟩
  have hr := B.returns
  have hlk := B.notSynchronized
  have hw : WW E b MC TC M TM s s.heap [] := ⟨hP, va_S.rf⟩
  have hl := lv_entry ([.ref (b + 197), .int x1]) (n := 2) (Nat.le_of_ble_eq_true rfl)
  rw [lg_entry_eq]
  generalize (lg_sl ([.ref (b + 197), .int x1]) ++ List.replicate (2 - (lg_sl ([.ref (b + 197), .int x1])).length) Slot.unset).toArray = ls at hl ⊢
  have hl : lv_has ls 2 [(0, .ref (b + 197)), (1, .int x1)] := hl
  obtain ⟨H, hH⟩ : ∃ H, H = s.heap := ⟨_, rfl⟩
  obtain ⟨locs, hL⟩ : ∃ L : List Loc, L = [] := ⟨_, rfl⟩
  rw [← hH, ← hL] at hw
  suffices hg : W p l e rmX8_count s m _ below meth c H locs 0 0 (MQ below (va_Qi (fun x (_ : Unit) => x = res) (fun _ t => PW E b MC TC M TM t) (AA b)) _ s 0 0 (AA b)) (F0 m 0 ls []) by rw [hH, hL] at hg; exact hg
  clear hH hL
  rw [gX8_count] at hf
  refine lv_iload_n hx hb dX8_count_0 rfl (lv_at hl 1 rfl) ?_
  by_cases c28 : x1 = 0
  · replace hf := (if_pos c28).symm.trans hf
    refine lv_tableIn (tgt := 40) (off := 39) hx hb dX8_count_1 (by rw [c28]; decide) (by rw [c28]; decide) (by rw [c28]; rfl) (by decide) ?_
    refine lv_aload_n hx hb dX8_count_40 rfl (lv_at hl 0 rfl) ?_
    refine gt_X8 X hw 0 kk_197 rfl (by decide) mw_721 rfl dX8_count_41 ?_
    replace hf := Option.some.inj hf
    subst hf
    exact eI X hw hr hlk dX8_count_44
  · replace hf := (if_neg c28).symm.trans hf
    by_cases c29 : x1 = 1
    · replace hf := (if_pos c29).symm.trans hf
      refine lv_tableIn (tgt := 45) (off := 44) hx hb dX8_count_1 (by rw [c29]; decide) (by rw [c29]; decide) (by rw [c29]; rfl) (by decide) ?_
      refine lv_aload_n hx hb dX8_count_45 rfl (lv_at hl 0 rfl) ?_
      refine gt_X8 X hw 4 kk_197 rfl (by decide) mw_725 rfl dX8_count_46 ?_
      replace hf := Option.some.inj hf
      subst hf
      exact eI X hw hr hlk dX8_count_49
    · replace hf := (if_neg c29).symm.trans hf
      by_cases c30 : x1 = 2
      · replace hf := (if_pos c30).symm.trans hf
        refine lv_tableIn (tgt := 50) (off := 49) hx hb dX8_count_1 (by rw [c30]; decide) (by rw [c30]; decide) (by rw [c30]; rfl) (by decide) ?_
        refine lv_aload_n hx hb dX8_count_50 rfl (lv_at hl 0 rfl) ?_
        refine gt_X8 X hw 8 kk_197 rfl (by decide) mw_729 rfl dX8_count_51 ?_
        replace hf := Option.some.inj hf
        subst hf
        exact eI X hw hr hlk dX8_count_54
      · replace hf := (if_neg c30).symm.trans hf
        by_cases c31 : x1 = 3
        · replace hf := (if_pos c31).symm.trans hf
          refine lv_tableIn (tgt := 55) (off := 54) hx hb dX8_count_1 (by rw [c31]; decide) (by rw [c31]; decide) (by rw [c31]; rfl) (by decide) ?_
          refine lv_aload_n hx hb dX8_count_55 rfl (lv_at hl 0 rfl) ?_
          refine gt_X8 X hw 10 kk_197 rfl (by decide) mw_731 rfl dX8_count_56 ?_
          replace hf := Option.some.inj hf
          subst hf
          exact eI X hw hr hlk dX8_count_59
        · replace hf := (if_neg c31).symm.trans hf
          by_cases c32 : x1 = 4
          · replace hf := (if_pos c32).symm.trans hf
            refine lv_tableIn (tgt := 60) (off := 59) hx hb dX8_count_1 (by rw [c32]; decide) (by rw [c32]; decide) (by rw [c32]; rfl) (by decide) ?_
            refine lv_aload_n hx hb dX8_count_60 rfl (lv_at hl 0 rfl) ?_
            refine gt_X8 X hw 5 kk_197 rfl (by decide) mw_726 rfl dX8_count_61 ?_
            refine lv_bipush (v := 112) hx hb dX8_count_64 (by decide) ?_
            obtain ⟨v33, q34, hf⟩ := ob hf
            refine aldM X hw kdv_201 q34 dX8_count_66 ?_
            replace hf := Option.some.inj hf
            subst hf
            exact eI X hw hr hlk dX8_count_67
          · replace hf := (if_neg c32).symm.trans hf
            by_cases c35 : x1 = 5
            · replace hf := (if_pos c35).symm.trans hf
              refine lv_tableIn (tgt := 68) (off := 67) hx hb dX8_count_1 (by rw [c35]; decide) (by rw [c35]; decide) (by rw [c35]; rfl) (by decide) ?_
              refine lv_aload_n hx hb dX8_count_68 rfl (lv_at hl 0 rfl) ?_
              refine gt_X8 X hw 14 kk_197 rfl (by decide) mw_735 rfl dX8_count_69 ?_
              replace hf := Option.some.inj hf
              subst hf
              exact eI X hw hr hlk dX8_count_72
            · replace hf := (if_neg c35).symm.trans hf
              have nc28 : x1.toInt ≠ 0 := fun q => c28 (Int32.toInt_inj.mp (q.trans (by decide)))
              have nc29 : x1.toInt ≠ 1 := fun q => c29 (Int32.toInt_inj.mp (q.trans (by decide)))
              have nc30 : x1.toInt ≠ 2 := fun q => c30 (Int32.toInt_inj.mp (q.trans (by decide)))
              have nc31 : x1.toInt ≠ 3 := fun q => c31 (Int32.toInt_inj.mp (q.trans (by decide)))
              have nc32 : x1.toInt ≠ 4 := fun q => c32 (Int32.toInt_inj.mp (q.trans (by decide)))
              have nc35 : x1.toInt ≠ 5 := fun q => c35 (Int32.toInt_inj.mp (q.trans (by decide)))
              refine lv_tableOut (tgt := 73) hx hb dX8_count_1 (by omega) (by decide) ?_
              refine lv_iconst (v := (-1)) hx hb dX8_count_73 (by decide) ?_
              replace hf := Option.some.inj hf
              subst hf
              exact eI X hw hr hlk dX8_count_74

abbrev rmX8_trace : Room := { frames := 0, cells := 0, slots := 0, locals := 0 }
theorem hd_X8_trace : Hd yX8_trace RX8 0 := by decide +kernel
def gX8_trace (T : Int64) : Option (Int64) := some (T)
set_option maxHeartbeats 4000000 in
set_option maxRecDepth 100000 in
theorem ctX8_trace (l : Launch) (E : EE) (b : Nat) {MC : Mem} {TC : Int64} {MM : Mem} {T : Int64} {res : Int64}  (hf : gX8_trace T = some res) : MetL l E b yX8_trace (.code yX8_trace cX8_trace 1 (some .long)) rmX8_trace [.ref (b + 197)] MC TC MM T res MC TC MM T := by
  refine Met.ofW (cc := cX8_trace) (maxL := 1) (ret := (some .long)) (by decide) rfl ?_
  intro p e s m args below meth c s₁ B hml hv
  obtain ⟨rfl, hP, hK⟩ := hv
  have hx := B.exec
  have hb := B.bytes
  have X : CX E p s m _ c cX8_trace 1 RX8 := ⟨hx, hb, hml, findClass_of_methodNamed B.named, fun w h => atoms_spec (ws := _ :: wt) B.pre w (List.mem_cons_of_mem _ h), hK⟩
  have hr := B.returns
  have hlk := B.notSynchronized
  have hw : WW E b MC TC MM T s s.heap [] := ⟨hP, va_S.rf⟩
  have hl := lv_entry ([.ref (b + 197)]) (n := 1) (Nat.le_of_ble_eq_true rfl)
  rw [lg_entry_eq]
  generalize (lg_sl ([.ref (b + 197)]) ++ List.replicate (1 - (lg_sl ([.ref (b + 197)])).length) Slot.unset).toArray = ls at hl ⊢
  have hl : lv_has ls 1 [(0, .ref (b + 197))] := hl
  obtain ⟨H, hH⟩ : ∃ H, H = s.heap := ⟨_, rfl⟩
  obtain ⟨locs, hL⟩ : ∃ L : List Loc, L = [] := ⟨_, rfl⟩
  rw [← hH, ← hL] at hw
  suffices hg : W p l e rmX8_trace s m _ below meth c H locs 0 0 (MQ below (va_Ql (fun x (_ : Unit) => x = res) (fun _ t => PW E b MC TC MM T t) (AA b)) _ s 0 0 (AA b)) (F0 m 0 ls []) by rw [hH, hL] at hg; exact hg
  clear hH hL
  rw [gX8_trace] at hf
  refine lv_aload_n hx hb dX8_trace_0 rfl (lv_at hl 0 rfl) ?_
  refine gt_X8 X hw 12 kk_197 rfl (by decide) mw_733 rfl dX8_trace_1 ?_
  replace hf := Option.some.inj hf
  subst hf
  exact eL X hw hr hlk dX8_trace_4
