abbrev rmJ6_bitCount_0f7a4 : Room := { frames := 0, cells := 0, slots := 0, locals := 0 }
theorem hd_J6_bitCount_0f7a4 : Hd yJ6_bitCount_0f7a4 RJ6 1 := by decide +kernel
def gJ6_bitCount_0f7a4 (x0 : Int32) : Option (Int32) := (some (x0 - (((x0.toUInt32 >>> ((1 : Int32).toUInt32 &&& Int32.toUInt32 31)).toInt32) &&& 1431655765))).bind fun z1 => (some ((z1 &&& 858993459) + (((z1.toUInt32 >>> ((2 : Int32).toUInt32 &&& Int32.toUInt32 31)).toInt32) &&& 858993459))).bind fun z2 => (some ((z2 + ((z2.toUInt32 >>> ((4 : Int32).toUInt32 &&& Int32.toUInt32 31)).toInt32)) &&& 252645135)).bind fun z3 => (some (z3 + ((z3.toUInt32 >>> ((8 : Int32).toUInt32 &&& Int32.toUInt32 31)).toInt32))).bind fun z4 => (some (z4 + ((z4.toUInt32 >>> ((16 : Int32).toUInt32 &&& Int32.toUInt32 31)).toInt32))).bind fun z5 => some (z5 &&& 63)
set_option maxHeartbeats 4000000 in
set_option maxRecDepth 100000 in
theorem ctJ6_bitCount_0f7a4 (l : Launch) (E : EE) (b : Nat) {MC : Mem} {TC : Int64} {MM : Mem} {TM : Int64} {x0 : Int32} {res : Int32}  (hf : gJ6_bitCount_0f7a4 x0 = some res) : MetI l E b yJ6_bitCount_0f7a4 (.code yJ6_bitCount_0f7a4 cJ6_bitCount_0f7a4 1 (some .int)) rmJ6_bitCount_0f7a4 [.int x0] MC TC MM TM res MC TC MM TM := by
  refine Met.ofW (cc := cJ6_bitCount_0f7a4) (maxL := 1) (ret := (some .int)) (by decide) rfl ?_
  intro p e s m args below meth c s₁ B hml hv
  obtain ⟨rfl, hP, hK⟩ := hv
  have hx := B.exec
  have hb := B.bytes
  have X : CX E p s m _ c cJ6_bitCount_0f7a4 1 RJ6 := ⟨hx, hb, hml, findClass_of_methodNamed B.named, fun w h => atoms_spec (ws := _ :: wt) B.pre w (List.mem_cons_of_mem _ h), hK⟩
  have hr := B.returns
  have hlk := B.notSynchronized
  have hw : WW E b MC TC MM TM s s.heap [] := ⟨hP, va_S.rf⟩
  have hl := lv_entry ([.int x0]) (n := 1) (Nat.le_of_ble_eq_true rfl)
  rw [lg_entry_eq]
  generalize (lg_sl ([.int x0]) ++ List.replicate (1 - (lg_sl ([.int x0])).length) Slot.unset).toArray = ls at hl ⊢
  have hl : lv_has ls 1 [(0, .int x0)] := hl
  obtain ⟨H, hH⟩ : ∃ H, H = s.heap := ⟨_, rfl⟩
  obtain ⟨locs, hL⟩ : ∃ L : List Loc, L = [] := ⟨_, rfl⟩
  rw [← hH, ← hL] at hw
  suffices hg : W p l e rmJ6_bitCount_0f7a4 s m _ below meth c H locs 0 0 (MQ below (va_Qi (fun x (_ : Unit) => x = res) (fun _ t => PW E b MC TC MM TM t) (AA b)) _ s 0 0 (AA b)) (F0 m 0 ls []) by rw [hH, hL] at hg; exact hg
  clear hH hL
  rw [gJ6_bitCount_0f7a4] at hf
  refine lv_iload_n hx hb dJ6_bitCount_0f7a4_0 rfl (lv_at hl 0 rfl) ?_
  refine lv_iload_n hx hb dJ6_bitCount_0f7a4_1 rfl (lv_at hl 0 rfl) ?_
  refine lv_iconst (v := 1) hx hb dJ6_bitCount_0f7a4_2 (by decide) ?_
  refine lv_iushr hx hb dJ6_bitCount_0f7a4_3 rfl ?_
  refine lv_ldcw (v := 1431655765) hx hb X.2.2.2.1 (X.2.2.2.2.1 _ mw_592) dJ6_bitCount_0f7a4_4 ?_
  refine lv_iand hx hb dJ6_bitCount_0f7a4_7 ?_
  refine lv_isub hx hb dJ6_bitCount_0f7a4_8 ?_
  refine lv_topi (fun z1 ez1 => ?_)
  replace hf := nmb hf ez1
  refine lv_istore_n (lv' := [(0, .int z1)]) hx hb dJ6_bitCount_0f7a4_9 rfl hl (by decide) rfl (fun ls hl => ?_)
  refine lv_iload_n hx hb dJ6_bitCount_0f7a4_10 rfl (lv_at hl 0 rfl) ?_
  refine lv_ldcw (v := 858993459) hx hb X.2.2.2.1 (X.2.2.2.2.1 _ mw_593) dJ6_bitCount_0f7a4_11 ?_
  refine lv_iand hx hb dJ6_bitCount_0f7a4_14 ?_
  refine lv_iload_n hx hb dJ6_bitCount_0f7a4_15 rfl (lv_at hl 0 rfl) ?_
  refine lv_iconst (v := 2) hx hb dJ6_bitCount_0f7a4_16 (by decide) ?_
  refine lv_iushr hx hb dJ6_bitCount_0f7a4_17 rfl ?_
  refine lv_ldcw (v := 858993459) hx hb X.2.2.2.1 (X.2.2.2.2.1 _ mw_593) dJ6_bitCount_0f7a4_18 ?_
  refine lv_iand hx hb dJ6_bitCount_0f7a4_21 ?_
  refine lv_iadd hx hb dJ6_bitCount_0f7a4_22 ?_
  refine lv_topi (fun z2 ez2 => ?_)
  replace hf := nmb hf ez2
  refine lv_istore_n (lv' := [(0, .int z2)]) hx hb dJ6_bitCount_0f7a4_23 rfl hl (by decide) rfl (fun ls hl => ?_)
  refine lv_iload_n hx hb dJ6_bitCount_0f7a4_24 rfl (lv_at hl 0 rfl) ?_
  refine lv_iload_n hx hb dJ6_bitCount_0f7a4_25 rfl (lv_at hl 0 rfl) ?_
  refine lv_iconst (v := 4) hx hb dJ6_bitCount_0f7a4_26 (by decide) ?_
  refine lv_iushr hx hb dJ6_bitCount_0f7a4_27 rfl ?_
  refine lv_iadd hx hb dJ6_bitCount_0f7a4_28 ?_
  refine lv_ldcw (v := 252645135) hx hb X.2.2.2.1 (X.2.2.2.2.1 _ mw_594) dJ6_bitCount_0f7a4_29 ?_
  refine lv_iand hx hb dJ6_bitCount_0f7a4_32 ?_
  refine lv_topi (fun z3 ez3 => ?_)
  replace hf := nmb hf ez3
  refine lv_istore_n (lv' := [(0, .int z3)]) hx hb dJ6_bitCount_0f7a4_33 rfl hl (by decide) rfl (fun ls hl => ?_)
  refine lv_iload_n hx hb dJ6_bitCount_0f7a4_34 rfl (lv_at hl 0 rfl) ?_
  refine lv_iload_n hx hb dJ6_bitCount_0f7a4_35 rfl (lv_at hl 0 rfl) ?_
  refine lv_bipush (v := 8) hx hb dJ6_bitCount_0f7a4_36 (by decide) ?_
  refine lv_iushr hx hb dJ6_bitCount_0f7a4_38 rfl ?_
  refine lv_iadd hx hb dJ6_bitCount_0f7a4_39 ?_
  refine lv_topi (fun z4 ez4 => ?_)
  replace hf := nmb hf ez4
  refine lv_istore_n (lv' := [(0, .int z4)]) hx hb dJ6_bitCount_0f7a4_40 rfl hl (by decide) rfl (fun ls hl => ?_)
  refine lv_iload_n hx hb dJ6_bitCount_0f7a4_41 rfl (lv_at hl 0 rfl) ?_
  refine lv_iload_n hx hb dJ6_bitCount_0f7a4_42 rfl (lv_at hl 0 rfl) ?_
  refine lv_bipush (v := 16) hx hb dJ6_bitCount_0f7a4_43 (by decide) ?_
  refine lv_iushr hx hb dJ6_bitCount_0f7a4_45 rfl ?_
  refine lv_iadd hx hb dJ6_bitCount_0f7a4_46 ?_
  refine lv_topi (fun z5 ez5 => ?_)
  replace hf := nmb hf ez5
  refine lv_istore_n (lv' := [(0, .int z5)]) hx hb dJ6_bitCount_0f7a4_47 rfl hl (by decide) rfl (fun ls hl => ?_)
  refine lv_iload_n hx hb dJ6_bitCount_0f7a4_48 rfl (lv_at hl 0 rfl) ?_
  refine lv_bipush (v := 63) hx hb dJ6_bitCount_0f7a4_49 (by decide) ?_
  refine lv_iand hx hb dJ6_bitCount_0f7a4_51 ?_
  replace hf := Option.some.inj hf
  subst hf
  exact eI X hw hr hlk dJ6_bitCount_0f7a4_52

abbrev rmJ7_fill_53178 : Room := { frames := 0, cells := 0, slots := 0, locals := 0 }
theorem hd_J7_fill_53178 : Hd yJ7_fill_53178 RJ7 2 := by decide +kernel
def gJ7_fill_53178_5 (o0 : Nat) (n0 : Nat)  : Nat → Int32 → Int32 → Int32 → Mem → Option (Mem)
  | 0, _, _, _, _ => none
  | n + 1, x1, x2, x3, M => if x3 ≤ x2 then (some (M)) else ((stA n0 M o0 x2 x1).bind fun M8 => (some (x2 + 1)).bind fun z10 => (gJ7_fill_53178_5 o0 n0 n) x1 z10 x3 M8)
def gJ7_fill_53178 (o0 : Nat) (n0 : Nat) (x1 : Int32) (M : Mem) : Option (Mem) := (some (Int32.ofNat n0)).bind fun z6 => gJ7_fill_53178_5 o0 n0 FU x1 0 z6 M
set_option maxHeartbeats 4000000 in
set_option maxRecDepth 100000 in
theorem tJ7_fill_53178_5 {p : Program} {l : Launch} {e : Env} {s : State} {m : MethodId} {args : Array Value} {below : List Frame} {meth : Method} {c : Code} {E : EE} {b : Nat} {TC : Int64} {MM : Mem} {TM : Int64} {res : Mem} (X : CX E p s m args c cJ7_fill_53178 4 RJ7) (hr : meth.sig.returnType = none) (hlk : meth.locks = false) {o0 : Nat} {n0 : Nat} (h0 : kd o0 = (1, n0))  : ∀ (n : Nat) (x1 : Int32) (x2 : Int32) (x3 : Int32) (M : Mem), gJ7_fill_53178_5 o0 n0 n x1 x2 x3 M = some res → ∀ (H : Heap) (locs : List Loc) (ls : Array Slot), WW E b M TC MM TM s H locs → lv_has ls 4 [(0, .ref (b + o0)), (1, .int x1), (2, .int x2), (3, .int x3)] → W p l e rmJ7_fill_53178 s m args below meth c H locs 0 0 (MQ below (va_Qv (fun (_ : Unit) => True) (fun _ t => PW E b res TC MM TM t) (AA b)) args s 0 0 (AA b)) (F0 m 5 ls []) := by
  have hx := X.1
  have hb := X.2.1
  intro n
  induction n with
  | zero =>
    intro x1 x2 x3 M hf
    cases (show (none : Option (Mem)) = some res from hf)
  | succ n ih =>
    intro x1 x2 x3 M hf H locs ls hw hl
    rw [gJ7_fill_53178_5] at hf
    refine lv_iload_n hx hb dJ7_fill_53178_5 rfl (lv_at hl 2 rfl) ?_
    refine lv_iload_n hx hb dJ7_fill_53178_6 rfl (lv_at hl 3 rfl) ?_
    refine lv_icmp_ge (tgt := 20) hx hb dJ7_fill_53178_7 (by decide) (fun c7 => ?_) (fun c7 => ?_)
    · replace hf := (if_pos c7).symm.trans hf
      replace hf := Option.some.inj hf
      subst hf
      exact eV X hw hr hlk dJ7_fill_53178_20
    · replace hf := (if_neg c7).symm.trans hf
      refine lv_aload_n hx hb dJ7_fill_53178_10 rfl (lv_at hl 0 rfl) ?_
      refine lv_iload_n hx hb dJ7_fill_53178_11 rfl (lv_at hl 2 rfl) ?_
      refine lv_iload_n hx hb dJ7_fill_53178_12 rfl (lv_at hl 1 rfl) ?_
      obtain ⟨M8, q9, hf⟩ := ob hf
      refine astC X hw h0 q9 dJ7_fill_53178_13 (fun H locs hw => ?_)
      obtain ⟨z10, ez10⟩ : ∃ y : Int32, y = x2 + 1 := ⟨_, rfl⟩
      replace hf := nmb hf ez10
      refine lv_iinc (v := z10) (lv' := [(2, .int z10), (0, .ref (b + o0)), (1, .int x1), (3, .int x3)]) hx hb dJ7_fill_53178_14 hl (k := 2) rfl (by rw [ez10]; rfl) (by decide) rfl (fun ls hl => ?_)
      refine lv_goto (tgt := 5) hx hb dJ7_fill_53178_17 (by decide) ?_
      exact ih x1 z10 x3 M8 hf H locs ls hw (lv_sub hl [1, 2, 0, 3] rfl)
set_option maxHeartbeats 4000000 in
set_option maxRecDepth 100000 in
theorem ctJ7_fill_53178 (l : Launch) (E : EE) (b : Nat) {TC : Int64} {MM : Mem} {TM : Int64} {o0 : Nat} {n0 : Nat} {x1 : Int32} {M : Mem} {res : Mem} (h0 : kd o0 = (1, n0)) (hf : gJ7_fill_53178 o0 n0 x1 M = some res) : MetV l E b yJ7_fill_53178 (.code yJ7_fill_53178 cJ7_fill_53178 4 none) rmJ7_fill_53178 [.ref (b + o0), .int x1] M TC MM TM res TC MM TM := by
  refine Met.ofW (cc := cJ7_fill_53178) (maxL := 4) (ret := none) (by decide) rfl ?_
  intro p e s m args below meth c s₁ B hml hv
  obtain ⟨rfl, hP, hK⟩ := hv
  have hx := B.exec
  have hb := B.bytes
  have X : CX E p s m _ c cJ7_fill_53178 4 RJ7 := ⟨hx, hb, hml, findClass_of_methodNamed B.named, fun w h => atoms_spec (ws := _ :: wt) B.pre w (List.mem_cons_of_mem _ h), hK⟩
  have hr := B.returns
  have hlk := B.notSynchronized
  have hw : WW E b M TC MM TM s s.heap [] := ⟨hP, va_S.rf⟩
  have hl := lv_entry ([.ref (b + o0), .int x1]) (n := 4) (Nat.le_of_ble_eq_true rfl)
  rw [lg_entry_eq]
  generalize (lg_sl ([.ref (b + o0), .int x1]) ++ List.replicate (4 - (lg_sl ([.ref (b + o0), .int x1])).length) Slot.unset).toArray = ls at hl ⊢
  have hl : lv_has ls 4 [(0, .ref (b + o0)), (1, .int x1)] := hl
  obtain ⟨H, hH⟩ : ∃ H, H = s.heap := ⟨_, rfl⟩
  obtain ⟨locs, hL⟩ : ∃ L : List Loc, L = [] := ⟨_, rfl⟩
  rw [← hH, ← hL] at hw
  suffices hg : W p l e rmJ7_fill_53178 s m _ below meth c H locs 0 0 (MQ below (va_Qv (fun (_ : Unit) => True) (fun _ t => PW E b res TC MM TM t) (AA b)) _ s 0 0 (AA b)) (F0 m 0 ls []) by rw [hH, hL] at hg; exact hg
  clear hH hL
  rw [gJ7_fill_53178] at hf
  refine lv_iconst (v := 0) hx hb dJ7_fill_53178_0 (by decide) ?_
  refine lv_istore_n (lv' := [(2, .int 0), (0, .ref (b + o0)), (1, .int x1)]) hx hb dJ7_fill_53178_1 rfl hl (by decide) rfl (fun ls hl => ?_)
  refine lv_aload_n hx hb dJ7_fill_53178_2 rfl (lv_at hl 1 rfl) ?_
  refine alenC X hw h0 rfl dJ7_fill_53178_3 ?_
  refine lv_topi (fun z6 ez6 => ?_)
  replace hf := nmb hf ez6
  refine lv_istore_n (lv' := [(3, .int z6), (2, .int 0), (0, .ref (b + o0)), (1, .int x1)]) hx hb dJ7_fill_53178_4 rfl hl (by decide) rfl (fun ls hl => ?_)
  exact tJ7_fill_53178_5 X hr hlk h0 FU x1 0 z6 M hf H locs ls hw (lv_sub hl [2, 3, 1, 0] rfl)

abbrev rmX6_begin : Room := { frames := 0, cells := 0, slots := 0, locals := 0 }
theorem hd_X6_begin : Hd yX6_begin RX6 0 := by decide +kernel
def gX6_begin (o0 : Nat) (M : Mem) : Option (Mem) := (some (us M o0 3 0)).bind fun M11 => (some (us M11 o0 4 12)).bind fun M12 => (some (us M12 o0 5 0)).bind fun M13 => some (M13)
set_option maxHeartbeats 4000000 in
set_option maxRecDepth 100000 in
theorem ctX6_begin (l : Launch) (E : EE) (b : Nat) {TC : Int64} {MM : Mem} {TM : Int64} {o0 : Nat} {M : Mem} {res : Mem} (h0 : (kd o0).1 = 6) (hf : gX6_begin o0 M = some res) : MetV l E b yX6_begin (.code yX6_begin cX6_begin 1 none) rmX6_begin [.ref (b + o0)] M TC MM TM res TC MM TM := by
  refine Met.ofW (cc := cX6_begin) (maxL := 1) (ret := none) (by decide) rfl ?_
  intro p e s m args below meth c s₁ B hml hv
  obtain ⟨rfl, hP, hK⟩ := hv
  have hx := B.exec
  have hb := B.bytes
  have X : CX E p s m _ c cX6_begin 1 RX6 := ⟨hx, hb, hml, findClass_of_methodNamed B.named, fun w h => atoms_spec (ws := _ :: wt) B.pre w (List.mem_cons_of_mem _ h), hK⟩
  have hr := B.returns
  have hlk := B.notSynchronized
  have hw : WW E b M TC MM TM s s.heap [] := ⟨hP, va_S.rf⟩
  have hl := lv_entry ([.ref (b + o0)]) (n := 1) (Nat.le_of_ble_eq_true rfl)
  rw [lg_entry_eq]
  generalize (lg_sl ([.ref (b + o0)]) ++ List.replicate (1 - (lg_sl ([.ref (b + o0)])).length) Slot.unset).toArray = ls at hl ⊢
  have hl : lv_has ls 1 [(0, .ref (b + o0))] := hl
  obtain ⟨H, hH⟩ : ∃ H, H = s.heap := ⟨_, rfl⟩
  obtain ⟨locs, hL⟩ : ∃ L : List Loc, L = [] := ⟨_, rfl⟩
  rw [← hH, ← hL] at hw
  suffices hg : W p l e rmX6_begin s m _ below meth c H locs 0 0 (MQ below (va_Qv (fun (_ : Unit) => True) (fun _ t => PW E b res TC MM TM t) (AA b)) _ s 0 0 (AA b)) (F0 m 0 ls []) by rw [hH, hL] at hg; exact hg
  clear hH hL
  rw [gX6_begin] at hf
  refine lv_aload_n hx hb dX6_begin_0 rfl (lv_at hl 0 rfl) ?_
  refine lv_iconst (v := 0) hx hb dX6_begin_1 (by decide) ?_
  obtain ⟨M11, eM11, hf⟩ := ob hf
  refine pt_X6_3 X hw h0 mw_111 dX6_begin_2 (fun H locs hw => ?_)
  rw [Option.some.inj eM11] at hw
  refine lv_aload_n hx hb dX6_begin_5 rfl (lv_at hl 0 rfl) ?_
  refine lv_bipush (v := 12) hx hb dX6_begin_6 (by decide) ?_
  obtain ⟨M12, eM12, hf⟩ := ob hf
  refine pt_X6_4 X hw h0 mw_115 dX6_begin_8 (fun H locs hw => ?_)
  rw [Option.some.inj eM12] at hw
  refine lv_aload_n hx hb dX6_begin_11 rfl (lv_at hl 0 rfl) ?_
  refine lv_iconst (v := 0) hx hb dX6_begin_12 (by decide) ?_
  obtain ⟨M13, eM13, hf⟩ := ob hf
  refine pt_X6_5 X hw h0 mw_120 dX6_begin_13 (fun H locs hw => ?_)
  rw [Option.some.inj eM13] at hw
  replace hf := Option.some.inj hf
  subst hf
  exact eV X hw hr hlk dX6_begin_16

abbrev rmX6_copyFrom : Room := { frames := 1, cells := 0, slots := 0, locals := 60 }
theorem hd_X6_copyFrom : Hd yX6_copyFrom RX6 1 := by decide +kernel
def gX6_copyFrom (o0 : Nat) (o1 : Nat) (M : Mem) : Option (Mem) := (some (us M o0 3 (M o1 3))).bind fun M14 => (some (us M14 o0 4 (M14 o1 4))).bind fun M15 => (some (us M15 o0 5 (M15 o1 5))).bind fun M16 => (cpA 5 5 M16 (o1 + 1) 0 (o0 + 1) 0 5).bind fun M17 => (cpA 5 5 M17 (o1 + 2) 0 (o0 + 2) 0 5).bind fun M19 => (cpA 35 35 M19 (o1 + 3) 0 (o0 + 3) 0 35).bind fun M21 => some (M21)
set_option maxHeartbeats 4000000 in
set_option maxRecDepth 100000 in
theorem ctX6_copyFrom (l : Launch) (E : EE) (b : Nat) {TC : Int64} {MM : Mem} {TM : Int64} {o0 : Nat} {o1 : Nat} {M : Mem} {res : Mem} (h0 : (kd o0).1 = 6) (h1 : (kd o1).1 = 6) (hf : gX6_copyFrom o0 o1 M = some res) : MetV l E b yX6_copyFrom (.code yX6_copyFrom cX6_copyFrom 2 none) rmX6_copyFrom [.ref (b + o0), .ref (b + o1)] M TC MM TM res TC MM TM := by
  refine Met.ofW (cc := cX6_copyFrom) (maxL := 2) (ret := none) (by decide) rfl ?_
  intro p e s m args below meth c s₁ B hml hv
  obtain ⟨rfl, hP, hK⟩ := hv
  have hx := B.exec
  have hb := B.bytes
  have X : CX E p s m _ c cX6_copyFrom 2 RX6 := ⟨hx, hb, hml, findClass_of_methodNamed B.named, fun w h => atoms_spec (ws := _ :: wt) B.pre w (List.mem_cons_of_mem _ h), hK⟩
  have hr := B.returns
  have hlk := B.notSynchronized
  have hw : WW E b M TC MM TM s s.heap [] := ⟨hP, va_S.rf⟩
  have hl := lv_entry ([.ref (b + o0), .ref (b + o1)]) (n := 2) (Nat.le_of_ble_eq_true rfl)
  rw [lg_entry_eq]
  generalize (lg_sl ([.ref (b + o0), .ref (b + o1)]) ++ List.replicate (2 - (lg_sl ([.ref (b + o0), .ref (b + o1)])).length) Slot.unset).toArray = ls at hl ⊢
  have hl : lv_has ls 2 [(0, .ref (b + o0)), (1, .ref (b + o1))] := hl
  obtain ⟨H, hH⟩ : ∃ H, H = s.heap := ⟨_, rfl⟩
  obtain ⟨locs, hL⟩ : ∃ L : List Loc, L = [] := ⟨_, rfl⟩
  rw [← hH, ← hL] at hw
  suffices hg : W p l e rmX6_copyFrom s m _ below meth c H locs 0 0 (MQ below (va_Qv (fun (_ : Unit) => True) (fun _ t => PW E b res TC MM TM t) (AA b)) _ s 0 0 (AA b)) (F0 m 0 ls []) by rw [hH, hL] at hg; exact hg
  clear hH hL
  rw [gX6_copyFrom] at hf
  refine lv_aload_n hx hb dX6_copyFrom_0 rfl (lv_at hl 0 rfl) ?_
  refine lv_aload_n hx hb dX6_copyFrom_1 rfl (lv_at hl 1 rfl) ?_
  refine gt_X6 X hw 3 h1 rfl (by decide) mw_111 rfl dX6_copyFrom_2 ?_
  obtain ⟨M14, eM14, hf⟩ := ob hf
  refine pt_X6_3 X hw h0 mw_111 dX6_copyFrom_5 (fun H locs hw => ?_)
  rw [Option.some.inj eM14] at hw
  refine lv_aload_n hx hb dX6_copyFrom_8 rfl (lv_at hl 0 rfl) ?_
  refine lv_aload_n hx hb dX6_copyFrom_9 rfl (lv_at hl 1 rfl) ?_
  refine gt_X6 X hw 4 h1 rfl (by decide) mw_115 rfl dX6_copyFrom_10 ?_
  obtain ⟨M15, eM15, hf⟩ := ob hf
  refine pt_X6_4 X hw h0 mw_115 dX6_copyFrom_13 (fun H locs hw => ?_)
  rw [Option.some.inj eM15] at hw
  refine lv_aload_n hx hb dX6_copyFrom_16 rfl (lv_at hl 0 rfl) ?_
  refine lv_aload_n hx hb dX6_copyFrom_17 rfl (lv_at hl 1 rfl) ?_
  refine gt_X6 X hw 5 h1 rfl (by decide) mw_120 rfl dX6_copyFrom_18 ?_
  obtain ⟨M16, eM16, hf⟩ := ob hf
  refine pt_X6_5 X hw h0 mw_120 dX6_copyFrom_21 (fun H locs hw => ?_)
  rw [Option.some.inj eM16] at hw
  refine lv_aload_n hx hb dX6_copyFrom_24 rfl (lv_at hl 1 rfl) ?_
  refine gt_X6 X hw 0 h1 rfl (by decide) mw_102 rfl dX6_copyFrom_25 ?_
  refine lv_iconst (v := 0) hx hb dX6_copyFrom_28 (by decide) ?_
  refine lv_aload_n hx hb dX6_copyFrom_29 rfl (lv_at hl 0 rfl) ?_
  refine gt_X6 X hw 0 h0 rfl (by decide) mw_102 rfl dX6_copyFrom_30 ?_
  refine lv_iconst (v := 0) hx hb dX6_copyFrom_33 (by decide) ?_
  refine lv_aload_n hx hb dX6_copyFrom_34 rfl (lv_at hl 0 rfl) ?_
  refine gt_X6 X hw 0 h0 rfl (by decide) mw_102 rfl dX6_copyFrom_35 ?_
  refine alenC X hw (kr_X6_0 h0) (v := 5) (by decide) dX6_copyFrom_38 ?_
  obtain ⟨M17, q18, hf⟩ := ob hf
  refine cpyC X hw hl.1 (kr_X6_0 h1) (kr_X6_0 h0) q18 mw_385 mw_387 mw_386 mw_63 (Nat.le_of_ble_eq_true rfl) (Nat.le_of_ble_eq_true rfl) dX6_copyFrom_39 (fun H locs hw => ?_)
  refine lv_aload_n hx hb dX6_copyFrom_42 rfl (lv_at hl 1 rfl) ?_
  refine gt_X6 X hw 1 h1 rfl (by decide) mw_105 rfl dX6_copyFrom_43 ?_
  refine lv_iconst (v := 0) hx hb dX6_copyFrom_46 (by decide) ?_
  refine lv_aload_n hx hb dX6_copyFrom_47 rfl (lv_at hl 0 rfl) ?_
  refine gt_X6 X hw 1 h0 rfl (by decide) mw_105 rfl dX6_copyFrom_48 ?_
  refine lv_iconst (v := 0) hx hb dX6_copyFrom_51 (by decide) ?_
  refine lv_aload_n hx hb dX6_copyFrom_52 rfl (lv_at hl 0 rfl) ?_
  refine gt_X6 X hw 1 h0 rfl (by decide) mw_105 rfl dX6_copyFrom_53 ?_
  refine alenC X hw (kr_X6_1 h0) (v := 5) (by decide) dX6_copyFrom_56 ?_
  obtain ⟨M19, q20, hf⟩ := ob hf
  refine cpyC X hw hl.1 (kr_X6_1 h1) (kr_X6_1 h0) q20 mw_385 mw_387 mw_386 mw_63 (Nat.le_of_ble_eq_true rfl) (Nat.le_of_ble_eq_true rfl) dX6_copyFrom_57 (fun H locs hw => ?_)
  refine lv_aload_n hx hb dX6_copyFrom_60 rfl (lv_at hl 1 rfl) ?_
  refine gt_X6 X hw 2 h1 rfl (by decide) mw_108 rfl dX6_copyFrom_61 ?_
  refine lv_iconst (v := 0) hx hb dX6_copyFrom_64 (by decide) ?_
  refine lv_aload_n hx hb dX6_copyFrom_65 rfl (lv_at hl 0 rfl) ?_
  refine gt_X6 X hw 2 h0 rfl (by decide) mw_108 rfl dX6_copyFrom_66 ?_
  refine lv_iconst (v := 0) hx hb dX6_copyFrom_69 (by decide) ?_
  refine lv_aload_n hx hb dX6_copyFrom_70 rfl (lv_at hl 0 rfl) ?_
  refine gt_X6 X hw 2 h0 rfl (by decide) mw_108 rfl dX6_copyFrom_71 ?_
  refine alenC X hw (kr_X6_2 h0) (v := 35) (by decide) dX6_copyFrom_74 ?_
  obtain ⟨M21, q22, hf⟩ := ob hf
  refine cpyC X hw hl.1 (kr_X6_2 h1) (kr_X6_2 h0) q22 mw_385 mw_387 mw_386 mw_63 (Nat.le_of_ble_eq_true rfl) (Nat.le_of_ble_eq_true rfl) dX6_copyFrom_75 (fun H locs hw => ?_)
  replace hf := Option.some.inj hf
  subst hf
  exact eV X hw hr hlk dX6_copyFrom_78

abbrev rmX6_usualThought : Room := { frames := 0, cells := 0, slots := 0, locals := 0 }
theorem hd_X6_usualThought : Hd yX6_usualThought RX6 2 := by decide +kernel
def gX6_usualThought_28 (o0 : Nat)  (y0 : Int32) (M : Mem) : Option (Int32) := some (y0)
def gX6_usualThought (o0 : Nat) (x1 : Int32) (x2 : Int32) (M : Mem) : Option (Int32) := (ldA 5 (M (o0 + 2)) x1).bind fun v23 => if v23 ≤ 0 then (gX6_usualThought_28 o0 0 M) else ((nz v23).bind fun _ => (ldA 35 (M (o0 + 3)) ((x1 * 7) + (x2 - x2 / v23 * v23))).bind fun v27 => gX6_usualThought_28 o0 v27 M)
set_option maxHeartbeats 4000000 in
set_option maxRecDepth 100000 in
theorem tX6_usualThought_28 {p : Program} {l : Launch} {e : Env} {s : State} {m : MethodId} {args : Array Value} {below : List Frame} {meth : Method} {c : Code} {E : EE} {b : Nat} {TC : Int64} {MM : Mem} {TM : Int64} {res : Int32} (X : CX E p s m args c cX6_usualThought 4 RX6) (hr : meth.sig.returnType = (some .int)) (hlk : meth.locks = false) {o0 : Nat} (h0 : (kd o0).1 = 6)  : ∀ (y0 : Int32) (M : Mem), gX6_usualThought_28 o0 y0 M = some res → ∀ (H : Heap) (locs : List Loc) (ls : Array Slot), WW E b M TC MM TM s H locs → lv_has ls 4 [] → W p l e rmX6_usualThought s m args below meth c H locs 0 0 (MQ below (va_Qi (fun x (_ : Unit) => x = res) (fun _ t => PW E b M TC MM TM t) (AA b)) args s 0 0 (AA b)) (F0 m 28 ls [.int y0]) := by
  have hx := X.1
  have hb := X.2.1
  intro y0 M hf H locs ls hw hl
  rw [gX6_usualThought_28] at hf
  replace hf := Option.some.inj hf
  subst hf
  exact eI X hw hr hlk dX6_usualThought_28
set_option maxHeartbeats 4000000 in
set_option maxRecDepth 100000 in
theorem ctX6_usualThought (l : Launch) (E : EE) (b : Nat) {TC : Int64} {MM : Mem} {TM : Int64} {o0 : Nat} {x1 : Int32} {x2 : Int32} {M : Mem} {res : Int32} (h0 : (kd o0).1 = 6) (hf : gX6_usualThought o0 x1 x2 M = some res) : MetI l E b yX6_usualThought (.code yX6_usualThought cX6_usualThought 4 (some .int)) rmX6_usualThought [.ref (b + o0), .int x1, .int x2] M TC MM TM res M TC MM TM := by
  refine Met.ofW (cc := cX6_usualThought) (maxL := 4) (ret := (some .int)) (by decide) rfl ?_
  intro p e s m args below meth c s₁ B hml hv
  obtain ⟨rfl, hP, hK⟩ := hv
  have hx := B.exec
  have hb := B.bytes
  have X : CX E p s m _ c cX6_usualThought 4 RX6 := ⟨hx, hb, hml, findClass_of_methodNamed B.named, fun w h => atoms_spec (ws := _ :: wt) B.pre w (List.mem_cons_of_mem _ h), hK⟩
  have hr := B.returns
  have hlk := B.notSynchronized
  have hw : WW E b M TC MM TM s s.heap [] := ⟨hP, va_S.rf⟩
  have hl := lv_entry ([.ref (b + o0), .int x1, .int x2]) (n := 4) (Nat.le_of_ble_eq_true rfl)
  rw [lg_entry_eq]
  generalize (lg_sl ([.ref (b + o0), .int x1, .int x2]) ++ List.replicate (4 - (lg_sl ([.ref (b + o0), .int x1, .int x2])).length) Slot.unset).toArray = ls at hl ⊢
  have hl : lv_has ls 4 [(0, .ref (b + o0)), (1, .int x1), (2, .int x2)] := hl
  obtain ⟨H, hH⟩ : ∃ H, H = s.heap := ⟨_, rfl⟩
  obtain ⟨locs, hL⟩ : ∃ L : List Loc, L = [] := ⟨_, rfl⟩
  rw [← hH, ← hL] at hw
  suffices hg : W p l e rmX6_usualThought s m _ below meth c H locs 0 0 (MQ below (va_Qi (fun x (_ : Unit) => x = res) (fun _ t => PW E b M TC MM TM t) (AA b)) _ s 0 0 (AA b)) (F0 m 0 ls []) by rw [hH, hL] at hg; exact hg
  clear hH hL
  rw [gX6_usualThought] at hf
  refine lv_aload_n hx hb dX6_usualThought_0 rfl (lv_at hl 0 rfl) ?_
  refine gt_X6 X hw 1 h0 rfl (by decide) mw_105 rfl dX6_usualThought_1 ?_
  refine lv_iload_n hx hb dX6_usualThought_4 rfl (lv_at hl 1 rfl) ?_
  obtain ⟨v23, q24, hf⟩ := ob hf
  refine aldC X hw (kr_X6_1 h0) q24 dX6_usualThought_5 ?_
  refine lv_istore_n (lv' := [(3, .int v23), (0, .ref (b + o0)), (1, .int x1), (2, .int x2)]) hx hb dX6_usualThought_6 rfl hl (by decide) rfl (fun ls hl => ?_)
  refine lv_iload_n hx hb dX6_usualThought_7 rfl (lv_at hl 0 rfl) ?_
  refine lv_if_le (tgt := 27) hx hb dX6_usualThought_8 (by decide) (fun c25 => ?_) (fun c25 => ?_)
  · replace hf := (if_pos c25).symm.trans hf
    refine lv_iconst (v := 0) hx hb dX6_usualThought_27 (by decide) ?_
    exact tX6_usualThought_28 X hr hlk h0 0 M hf H locs ls hw (lv_sub hl [] rfl)
  · replace hf := (if_neg c25).symm.trans hf
    refine lv_aload_n hx hb dX6_usualThought_11 rfl (lv_at hl 1 rfl) ?_
    refine gt_X6 X hw 2 h0 rfl (by decide) mw_108 rfl dX6_usualThought_12 ?_
    refine lv_iload_n hx hb dX6_usualThought_15 rfl (lv_at hl 2 rfl) ?_
    refine lv_bipush (v := 7) hx hb dX6_usualThought_16 (by decide) ?_
    refine lv_imul hx hb dX6_usualThought_18 ?_
    refine lv_iload_n hx hb dX6_usualThought_19 rfl (lv_at hl 3 rfl) ?_
    refine lv_iload_n hx hb dX6_usualThought_20 rfl (lv_at hl 0 rfl) ?_
    obtain ⟨_, q26, hf⟩ := ob hf
    refine lv_irem hx hb dX6_usualThought_21 (nz_ne q26) ?_
    refine lv_iadd hx hb dX6_usualThought_22 ?_
    obtain ⟨v27, q28, hf⟩ := ob hf
    refine aldC X hw (kr_X6_2 h0) q28 dX6_usualThought_23 ?_
    refine lv_goto (tgt := 28) hx hb dX6_usualThought_24 (by decide) ?_
    exact tX6_usualThought_28 X hr hlk h0 v27 M hf H locs ls hw (lv_sub hl [] rfl)

abbrev rmX1_begin : Room := { frames := 1, cells := 0, slots := 0, locals := 23 }
theorem hd_X1_begin : Hd yX1_begin RX1 1 := by decide +kernel
def gX1_begin (o0 : Nat) (x1 : Int32) (M : Mem) : Option (Mem) := (some (us M o0 4 0)).bind fun M29 => (some (us M29 o0 5 x1)).bind fun M30 => (gJ7_fill_53178 ((o0 + 1)) 5 0 M30).bind fun u31 => (gJ7_fill_53178 ((o0 + 2)) 5 ((-9)) u31).bind fun u33 => (gJ7_fill_53178 ((o0 + 4)) 40 0 u33).bind fun u35 => some (u35)
set_option maxHeartbeats 4000000 in
set_option maxRecDepth 100000 in
theorem ctX1_begin (l : Launch) (E : EE) (b : Nat) {TC : Int64} {MM : Mem} {TM : Int64} {o0 : Nat} {x1 : Int32} {M : Mem} {res : Mem} (h0 : (kd o0).1 = 3) (hf : gX1_begin o0 x1 M = some res) : MetV l E b yX1_begin (.code yX1_begin cX1_begin 2 none) rmX1_begin [.ref (b + o0), .int x1] M TC MM TM res TC MM TM := by
  refine Met.ofW (cc := cX1_begin) (maxL := 2) (ret := none) (by decide) rfl ?_
  intro p e s m args below meth c s₁ B hml hv
  obtain ⟨rfl, hP, hK⟩ := hv
  have hx := B.exec
  have hb := B.bytes
  have X : CX E p s m _ c cX1_begin 2 RX1 := ⟨hx, hb, hml, findClass_of_methodNamed B.named, fun w h => atoms_spec (ws := _ :: wt) B.pre w (List.mem_cons_of_mem _ h), hK⟩
  have hr := B.returns
  have hlk := B.notSynchronized
  have hw : WW E b M TC MM TM s s.heap [] := ⟨hP, va_S.rf⟩
  have hl := lv_entry ([.ref (b + o0), .int x1]) (n := 2) (Nat.le_of_ble_eq_true rfl)
  rw [lg_entry_eq]
  generalize (lg_sl ([.ref (b + o0), .int x1]) ++ List.replicate (2 - (lg_sl ([.ref (b + o0), .int x1])).length) Slot.unset).toArray = ls at hl ⊢
  have hl : lv_has ls 2 [(0, .ref (b + o0)), (1, .int x1)] := hl
  obtain ⟨H, hH⟩ : ∃ H, H = s.heap := ⟨_, rfl⟩
  obtain ⟨locs, hL⟩ : ∃ L : List Loc, L = [] := ⟨_, rfl⟩
  rw [← hH, ← hL] at hw
  suffices hg : W p l e rmX1_begin s m _ below meth c H locs 0 0 (MQ below (va_Qv (fun (_ : Unit) => True) (fun _ t => PW E b res TC MM TM t) (AA b)) _ s 0 0 (AA b)) (F0 m 0 ls []) by rw [hH, hL] at hg; exact hg
  clear hH hL
  rw [gX1_begin] at hf
  refine lv_aload_n hx hb dX1_begin_0 rfl (lv_at hl 0 rfl) ?_
  refine lv_iconst (v := 0) hx hb dX1_begin_1 (by decide) ?_
  obtain ⟨M29, eM29, hf⟩ := ob hf
  refine pt_X1_4 X hw h0 mw_186 dX1_begin_2 (fun H locs hw => ?_)
  rw [Option.some.inj eM29] at hw
  refine lv_aload_n hx hb dX1_begin_5 rfl (lv_at hl 0 rfl) ?_
  refine lv_iload_n hx hb dX1_begin_6 rfl (lv_at hl 1 rfl) ?_
  obtain ⟨M30, eM30, hf⟩ := ob hf
  refine pt_X1_5 X hw h0 mw_188 dX1_begin_7 (fun H locs hw => ?_)
  rw [Option.some.inj eM30] at hw
  refine lv_aload_n hx hb dX1_begin_10 rfl (lv_at hl 0 rfl) ?_
  refine gt_X1 X hw 0 h0 rfl (by decide) mw_178 rfl dX1_begin_11 ?_
  refine lv_iconst (v := 0) hx hb dX1_begin_14 (by decide) ?_
  obtain ⟨u31, q32, hf⟩ := ob hf
  refine cSv (As := [.ref (b + (o0 + 1)), .int 0]) X hw (ctJ7_fill_53178 l E b (kr_X1_0 h0) q32) ⟨mw_175, mw_176, mw_58, mw_177⟩ hd_J7_fill_53178 ⟨Nat.le_of_ble_eq_true rfl, Nat.le_of_ble_eq_true rfl, rfl, rfl⟩ rfl hl.1 rfl (Nat.le_of_ble_eq_true rfl) dX1_begin_15 (fun H locs hw => ?_)
  refine lv_aload_n hx hb dX1_begin_18 rfl (lv_at hl 0 rfl) ?_
  refine gt_X1 X hw 1 h0 rfl (by decide) mw_182 rfl dX1_begin_19 ?_
  refine lv_bipush (v := (-9)) hx hb dX1_begin_22 (by decide) ?_
  obtain ⟨u33, q34, hf⟩ := ob hf
  refine cSv (As := [.ref (b + (o0 + 2)), .int ((-9))]) X hw (ctJ7_fill_53178 l E b (kr_X1_1 h0) q34) ⟨mw_175, mw_176, mw_58, mw_177⟩ hd_J7_fill_53178 ⟨Nat.le_of_ble_eq_true rfl, Nat.le_of_ble_eq_true rfl, rfl, rfl⟩ rfl hl.1 rfl (Nat.le_of_ble_eq_true rfl) dX1_begin_24 (fun H locs hw => ?_)
  refine lv_aload_n hx hb dX1_begin_27 rfl (lv_at hl 0 rfl) ?_
  refine gt_X1 X hw 3 h0 rfl (by decide) mw_185 rfl dX1_begin_28 ?_
  refine lv_iconst (v := 0) hx hb dX1_begin_31 (by decide) ?_
  obtain ⟨u35, q36, hf⟩ := ob hf
  refine cSv (As := [.ref (b + (o0 + 4)), .int 0]) X hw (ctJ7_fill_53178 l E b (kr_X1_3 h0) q36) ⟨mw_175, mw_176, mw_58, mw_177⟩ hd_J7_fill_53178 ⟨Nat.le_of_ble_eq_true rfl, Nat.le_of_ble_eq_true rfl, rfl, rfl⟩ rfl hl.1 rfl (Nat.le_of_ble_eq_true rfl) dX1_begin_32 (fun H locs hw => ?_)
  replace hf := Option.some.inj hf
  subst hf
  exact eV X hw hr hlk dX1_begin_35

abbrev rmX1_copyFrom : Room := { frames := 1, cells := 0, slots := 0, locals := 60 }
theorem hd_X1_copyFrom : Hd yX1_copyFrom RX1 1 := by decide +kernel
def gX1_copyFrom (o0 : Nat) (o1 : Nat) (M : Mem) : Option (Mem) := (some (us M o0 4 (M o1 4))).bind fun M37 => (some (us M37 o0 5 (M37 o1 5))).bind fun M38 => (cpA 5 5 M38 (o1 + 1) 0 (o0 + 1) 0 5).bind fun M39 => (cpA 5 5 M39 (o1 + 2) 0 (o0 + 2) 0 5).bind fun M41 => (cpA 60 60 M41 (o1 + 3) 0 (o0 + 3) 0 60).bind fun M43 => (cpA 40 40 M43 (o1 + 4) 0 (o0 + 4) 0 40).bind fun M45 => some (M45)
set_option maxHeartbeats 4000000 in
set_option maxRecDepth 100000 in
theorem ctX1_copyFrom (l : Launch) (E : EE) (b : Nat) {TC : Int64} {MM : Mem} {TM : Int64} {o0 : Nat} {o1 : Nat} {M : Mem} {res : Mem} (h0 : (kd o0).1 = 3) (h1 : (kd o1).1 = 3) (hf : gX1_copyFrom o0 o1 M = some res) : MetV l E b yX1_copyFrom (.code yX1_copyFrom cX1_copyFrom 2 none) rmX1_copyFrom [.ref (b + o0), .ref (b + o1)] M TC MM TM res TC MM TM := by
  refine Met.ofW (cc := cX1_copyFrom) (maxL := 2) (ret := none) (by decide) rfl ?_
  intro p e s m args below meth c s₁ B hml hv
  obtain ⟨rfl, hP, hK⟩ := hv
  have hx := B.exec
  have hb := B.bytes
  have X : CX E p s m _ c cX1_copyFrom 2 RX1 := ⟨hx, hb, hml, findClass_of_methodNamed B.named, fun w h => atoms_spec (ws := _ :: wt) B.pre w (List.mem_cons_of_mem _ h), hK⟩
  have hr := B.returns
  have hlk := B.notSynchronized
  have hw : WW E b M TC MM TM s s.heap [] := ⟨hP, va_S.rf⟩
  have hl := lv_entry ([.ref (b + o0), .ref (b + o1)]) (n := 2) (Nat.le_of_ble_eq_true rfl)
  rw [lg_entry_eq]
  generalize (lg_sl ([.ref (b + o0), .ref (b + o1)]) ++ List.replicate (2 - (lg_sl ([.ref (b + o0), .ref (b + o1)])).length) Slot.unset).toArray = ls at hl ⊢
  have hl : lv_has ls 2 [(0, .ref (b + o0)), (1, .ref (b + o1))] := hl
  obtain ⟨H, hH⟩ : ∃ H, H = s.heap := ⟨_, rfl⟩
  obtain ⟨locs, hL⟩ : ∃ L : List Loc, L = [] := ⟨_, rfl⟩
  rw [← hH, ← hL] at hw
  suffices hg : W p l e rmX1_copyFrom s m _ below meth c H locs 0 0 (MQ below (va_Qv (fun (_ : Unit) => True) (fun _ t => PW E b res TC MM TM t) (AA b)) _ s 0 0 (AA b)) (F0 m 0 ls []) by rw [hH, hL] at hg; exact hg
  clear hH hL
  rw [gX1_copyFrom] at hf
  refine lv_aload_n hx hb dX1_copyFrom_0 rfl (lv_at hl 0 rfl) ?_
  refine lv_aload_n hx hb dX1_copyFrom_1 rfl (lv_at hl 1 rfl) ?_
  refine gt_X1 X hw 4 h1 rfl (by decide) mw_186 rfl dX1_copyFrom_2 ?_
  obtain ⟨M37, eM37, hf⟩ := ob hf
  refine pt_X1_4 X hw h0 mw_186 dX1_copyFrom_5 (fun H locs hw => ?_)
  rw [Option.some.inj eM37] at hw
  refine lv_aload_n hx hb dX1_copyFrom_8 rfl (lv_at hl 0 rfl) ?_
  refine lv_aload_n hx hb dX1_copyFrom_9 rfl (lv_at hl 1 rfl) ?_
  refine gt_X1 X hw 5 h1 rfl (by decide) mw_188 rfl dX1_copyFrom_10 ?_
  obtain ⟨M38, eM38, hf⟩ := ob hf
  refine pt_X1_5 X hw h0 mw_188 dX1_copyFrom_13 (fun H locs hw => ?_)
  rw [Option.some.inj eM38] at hw
  refine lv_aload_n hx hb dX1_copyFrom_16 rfl (lv_at hl 1 rfl) ?_
  refine gt_X1 X hw 0 h1 rfl (by decide) mw_178 rfl dX1_copyFrom_17 ?_
  refine lv_iconst (v := 0) hx hb dX1_copyFrom_20 (by decide) ?_
  refine lv_aload_n hx hb dX1_copyFrom_21 rfl (lv_at hl 0 rfl) ?_
  refine gt_X1 X hw 0 h0 rfl (by decide) mw_178 rfl dX1_copyFrom_22 ?_
  refine lv_iconst (v := 0) hx hb dX1_copyFrom_25 (by decide) ?_
  refine lv_aload_n hx hb dX1_copyFrom_26 rfl (lv_at hl 0 rfl) ?_
  refine gt_X1 X hw 0 h0 rfl (by decide) mw_178 rfl dX1_copyFrom_27 ?_
  refine alenC X hw (kr_X1_0 h0) (v := 5) (by decide) dX1_copyFrom_30 ?_
  obtain ⟨M39, q40, hf⟩ := ob hf
  refine cpyC X hw hl.1 (kr_X1_0 h1) (kr_X1_0 h0) q40 mw_455 mw_387 mw_386 mw_63 (Nat.le_of_ble_eq_true rfl) (Nat.le_of_ble_eq_true rfl) dX1_copyFrom_31 (fun H locs hw => ?_)
  refine lv_aload_n hx hb dX1_copyFrom_34 rfl (lv_at hl 1 rfl) ?_
  refine gt_X1 X hw 1 h1 rfl (by decide) mw_182 rfl dX1_copyFrom_35 ?_
  refine lv_iconst (v := 0) hx hb dX1_copyFrom_38 (by decide) ?_
  refine lv_aload_n hx hb dX1_copyFrom_39 rfl (lv_at hl 0 rfl) ?_
  refine gt_X1 X hw 1 h0 rfl (by decide) mw_182 rfl dX1_copyFrom_40 ?_
  refine lv_iconst (v := 0) hx hb dX1_copyFrom_43 (by decide) ?_
  refine lv_aload_n hx hb dX1_copyFrom_44 rfl (lv_at hl 0 rfl) ?_
  refine gt_X1 X hw 1 h0 rfl (by decide) mw_182 rfl dX1_copyFrom_45 ?_
  refine alenC X hw (kr_X1_1 h0) (v := 5) (by decide) dX1_copyFrom_48 ?_
  obtain ⟨M41, q42, hf⟩ := ob hf
  refine cpyC X hw hl.1 (kr_X1_1 h1) (kr_X1_1 h0) q42 mw_455 mw_387 mw_386 mw_63 (Nat.le_of_ble_eq_true rfl) (Nat.le_of_ble_eq_true rfl) dX1_copyFrom_49 (fun H locs hw => ?_)
  refine lv_aload_n hx hb dX1_copyFrom_52 rfl (lv_at hl 1 rfl) ?_
  refine gt_X1 X hw 2 h1 rfl (by decide) mw_184 rfl dX1_copyFrom_53 ?_
  refine lv_iconst (v := 0) hx hb dX1_copyFrom_56 (by decide) ?_
  refine lv_aload_n hx hb dX1_copyFrom_57 rfl (lv_at hl 0 rfl) ?_
  refine gt_X1 X hw 2 h0 rfl (by decide) mw_184 rfl dX1_copyFrom_58 ?_
  refine lv_iconst (v := 0) hx hb dX1_copyFrom_61 (by decide) ?_
  refine lv_aload_n hx hb dX1_copyFrom_62 rfl (lv_at hl 0 rfl) ?_
  refine gt_X1 X hw 2 h0 rfl (by decide) mw_184 rfl dX1_copyFrom_63 ?_
  refine alenC X hw (kr_X1_2 h0) (v := 60) (by decide) dX1_copyFrom_66 ?_
  obtain ⟨M43, q44, hf⟩ := ob hf
  refine cpyC X hw hl.1 (kr_X1_2 h1) (kr_X1_2 h0) q44 mw_455 mw_387 mw_386 mw_63 (Nat.le_of_ble_eq_true rfl) (Nat.le_of_ble_eq_true rfl) dX1_copyFrom_67 (fun H locs hw => ?_)
  refine lv_aload_n hx hb dX1_copyFrom_70 rfl (lv_at hl 1 rfl) ?_
  refine gt_X1 X hw 3 h1 rfl (by decide) mw_185 rfl dX1_copyFrom_71 ?_
  refine lv_iconst (v := 0) hx hb dX1_copyFrom_74 (by decide) ?_
  refine lv_aload_n hx hb dX1_copyFrom_75 rfl (lv_at hl 0 rfl) ?_
  refine gt_X1 X hw 3 h0 rfl (by decide) mw_185 rfl dX1_copyFrom_76 ?_
  refine lv_iconst (v := 0) hx hb dX1_copyFrom_79 (by decide) ?_
  refine lv_aload_n hx hb dX1_copyFrom_80 rfl (lv_at hl 0 rfl) ?_
  refine gt_X1 X hw 3 h0 rfl (by decide) mw_185 rfl dX1_copyFrom_81 ?_
  refine alenC X hw (kr_X1_3 h0) (v := 40) (by decide) dX1_copyFrom_84 ?_
  obtain ⟨M45, q46, hf⟩ := ob hf
  refine cpyC X hw hl.1 (kr_X1_3 h1) (kr_X1_3 h0) q46 mw_455 mw_387 mw_386 mw_63 (Nat.le_of_ble_eq_true rfl) (Nat.le_of_ble_eq_true rfl) dX1_copyFrom_85 (fun H locs hw => ?_)
  replace hf := Option.some.inj hf
  subst hf
  exact eV X hw hr hlk dX1_copyFrom_88

abbrev rmX1_layerAt : Room := { frames := 0, cells := 0, slots := 0, locals := 0 }
theorem hd_X1_layerAt : Hd yX1_layerAt RX1 2 := by decide +kernel
def gX1_layerAt (o0 : Nat) (x1 : Int32) (x2 : Int32) (M : Mem) : Option (Int32) := (ldA 60 (M (o0 + 3)) ((x1 * 12) + x2)).bind fun v47 => some (v47)
set_option maxHeartbeats 4000000 in
set_option maxRecDepth 100000 in
theorem ctX1_layerAt (l : Launch) (E : EE) (b : Nat) {TC : Int64} {MM : Mem} {TM : Int64} {o0 : Nat} {x1 : Int32} {x2 : Int32} {M : Mem} {res : Int32} (h0 : (kd o0).1 = 3) (hf : gX1_layerAt o0 x1 x2 M = some res) : MetI l E b yX1_layerAt (.code yX1_layerAt cX1_layerAt 3 (some .int)) rmX1_layerAt [.ref (b + o0), .int x1, .int x2] M TC MM TM res M TC MM TM := by
  refine Met.ofW (cc := cX1_layerAt) (maxL := 3) (ret := (some .int)) (by decide) rfl ?_
  intro p e s m args below meth c s₁ B hml hv
  obtain ⟨rfl, hP, hK⟩ := hv
  have hx := B.exec
  have hb := B.bytes
  have X : CX E p s m _ c cX1_layerAt 3 RX1 := ⟨hx, hb, hml, findClass_of_methodNamed B.named, fun w h => atoms_spec (ws := _ :: wt) B.pre w (List.mem_cons_of_mem _ h), hK⟩
  have hr := B.returns
  have hlk := B.notSynchronized
  have hw : WW E b M TC MM TM s s.heap [] := ⟨hP, va_S.rf⟩
  have hl := lv_entry ([.ref (b + o0), .int x1, .int x2]) (n := 3) (Nat.le_of_ble_eq_true rfl)
  rw [lg_entry_eq]
  generalize (lg_sl ([.ref (b + o0), .int x1, .int x2]) ++ List.replicate (3 - (lg_sl ([.ref (b + o0), .int x1, .int x2])).length) Slot.unset).toArray = ls at hl ⊢
  have hl : lv_has ls 3 [(0, .ref (b + o0)), (1, .int x1), (2, .int x2)] := hl
  obtain ⟨H, hH⟩ : ∃ H, H = s.heap := ⟨_, rfl⟩
  obtain ⟨locs, hL⟩ : ∃ L : List Loc, L = [] := ⟨_, rfl⟩
  rw [← hH, ← hL] at hw
  suffices hg : W p l e rmX1_layerAt s m _ below meth c H locs 0 0 (MQ below (va_Qi (fun x (_ : Unit) => x = res) (fun _ t => PW E b M TC MM TM t) (AA b)) _ s 0 0 (AA b)) (F0 m 0 ls []) by rw [hH, hL] at hg; exact hg
  clear hH hL
  rw [gX1_layerAt] at hf
  refine lv_aload_n hx hb dX1_layerAt_0 rfl (lv_at hl 0 rfl) ?_
  refine gt_X1 X hw 2 h0 rfl (by decide) mw_184 rfl dX1_layerAt_1 ?_
  refine lv_iload_n hx hb dX1_layerAt_4 rfl (lv_at hl 1 rfl) ?_
  refine lv_bipush (v := 12) hx hb dX1_layerAt_5 (by decide) ?_
  refine lv_imul hx hb dX1_layerAt_7 ?_
  refine lv_iload_n hx hb dX1_layerAt_8 rfl (lv_at hl 2 rfl) ?_
  refine lv_iadd hx hb dX1_layerAt_9 ?_
  obtain ⟨v47, q48, hf⟩ := ob hf
  refine aldC X hw (kr_X1_2 h0) q48 dX1_layerAt_10 ?_
  replace hf := Option.some.inj hf
  subst hf
  exact eI X hw hr hlk dX1_layerAt_11

abbrev rmX1_sweptOf : Room := { frames := 0, cells := 0, slots := 0, locals := 0 }
theorem hd_X1_sweptOf : Hd yX1_sweptOf RX1 2 := by decide +kernel
def gX1_sweptOf (o0 : Nat) (x1 : Int32) (x2 : Int32) (M : Mem) : Option (Int32) := (ldA 40 (M (o0 + 4)) ((x1 * 10) + x2)).bind fun v49 => some (v49)
set_option maxHeartbeats 4000000 in
set_option maxRecDepth 100000 in
theorem ctX1_sweptOf (l : Launch) (E : EE) (b : Nat) {TC : Int64} {MM : Mem} {TM : Int64} {o0 : Nat} {x1 : Int32} {x2 : Int32} {M : Mem} {res : Int32} (h0 : (kd o0).1 = 3) (hf : gX1_sweptOf o0 x1 x2 M = some res) : MetI l E b yX1_sweptOf (.code yX1_sweptOf cX1_sweptOf 3 (some .int)) rmX1_sweptOf [.ref (b + o0), .int x1, .int x2] M TC MM TM res M TC MM TM := by
  refine Met.ofW (cc := cX1_sweptOf) (maxL := 3) (ret := (some .int)) (by decide) rfl ?_
  intro p e s m args below meth c s₁ B hml hv
  obtain ⟨rfl, hP, hK⟩ := hv
  have hx := B.exec
  have hb := B.bytes
  have X : CX E p s m _ c cX1_sweptOf 3 RX1 := ⟨hx, hb, hml, findClass_of_methodNamed B.named, fun w h => atoms_spec (ws := _ :: wt) B.pre w (List.mem_cons_of_mem _ h), hK⟩
  have hr := B.returns
  have hlk := B.notSynchronized
  have hw : WW E b M TC MM TM s s.heap [] := ⟨hP, va_S.rf⟩
  have hl := lv_entry ([.ref (b + o0), .int x1, .int x2]) (n := 3) (Nat.le_of_ble_eq_true rfl)
  rw [lg_entry_eq]
  generalize (lg_sl ([.ref (b + o0), .int x1, .int x2]) ++ List.replicate (3 - (lg_sl ([.ref (b + o0), .int x1, .int x2])).length) Slot.unset).toArray = ls at hl ⊢
  have hl : lv_has ls 3 [(0, .ref (b + o0)), (1, .int x1), (2, .int x2)] := hl
  obtain ⟨H, hH⟩ : ∃ H, H = s.heap := ⟨_, rfl⟩
  obtain ⟨locs, hL⟩ : ∃ L : List Loc, L = [] := ⟨_, rfl⟩
  rw [← hH, ← hL] at hw
  suffices hg : W p l e rmX1_sweptOf s m _ below meth c H locs 0 0 (MQ below (va_Qi (fun x (_ : Unit) => x = res) (fun _ t => PW E b M TC MM TM t) (AA b)) _ s 0 0 (AA b)) (F0 m 0 ls []) by rw [hH, hL] at hg; exact hg
  clear hH hL
  rw [gX1_sweptOf] at hf
  refine lv_aload_n hx hb dX1_sweptOf_0 rfl (lv_at hl 0 rfl) ?_
  refine gt_X1 X hw 3 h0 rfl (by decide) mw_185 rfl dX1_sweptOf_1 ?_
  refine lv_iload_n hx hb dX1_sweptOf_4 rfl (lv_at hl 1 rfl) ?_
  refine lv_bipush (v := 10) hx hb dX1_sweptOf_5 (by decide) ?_
  refine lv_imul hx hb dX1_sweptOf_7 ?_
  refine lv_iload_n hx hb dX1_sweptOf_8 rfl (lv_at hl 2 rfl) ?_
  refine lv_iadd hx hb dX1_sweptOf_9 ?_
  obtain ⟨v49, q50, hf⟩ := ob hf
  refine aldC X hw (kr_X1_3 h0) q50 dX1_sweptOf_10 ?_
  replace hf := Option.some.inj hf
  subst hf
  exact eI X hw hr hlk dX1_sweptOf_11

abbrev rmX1_thoughtAhead : Room := { frames := 1, cells := 0, slots := 0, locals := 23 }
theorem hd_X1_thoughtAhead : Hd yX1_thoughtAhead RX1 3 := by decide +kernel
def gX1_thoughtAhead_22 (o0 : Nat) (o1 : Nat)  (x2 : Int32) (x3 : Int32) (M : Mem) : Option (Int32) := (gX6_usualThought o1 x2 ((M o0 4) + x3) M).bind fun u52 => some (u52)
def gX1_thoughtAhead (o0 : Nat) (o1 : Nat) (x2 : Int32) (x3 : Int32) (M : Mem) : Option (Int32) := if x3 = 0 then ((ldA 5 (M (o0 + 2)) x2).bind fun v54 => if v54 = ((-9)) then (gX1_thoughtAhead_22 o0 o1 x2 x3 M) else ((ldA 5 (M (o0 + 2)) x2).bind fun v57 => some (v57))) else (gX1_thoughtAhead_22 o0 o1 x2 x3 M)
set_option maxHeartbeats 4000000 in
set_option maxRecDepth 100000 in
theorem tX1_thoughtAhead_22 {p : Program} {l : Launch} {e : Env} {s : State} {m : MethodId} {args : Array Value} {below : List Frame} {meth : Method} {c : Code} {E : EE} {b : Nat} {TC : Int64} {MM : Mem} {TM : Int64} {res : Int32} (X : CX E p s m args c cX1_thoughtAhead 4 RX1) (hr : meth.sig.returnType = (some .int)) (hlk : meth.locks = false) {o0 : Nat} {o1 : Nat} (h0 : (kd o0).1 = 3) (h1 : (kd o1).1 = 6)  : ∀ (x2 : Int32) (x3 : Int32) (M : Mem), gX1_thoughtAhead_22 o0 o1 x2 x3 M = some res → ∀ (H : Heap) (locs : List Loc) (ls : Array Slot), WW E b M TC MM TM s H locs → lv_has ls 4 [(0, .ref (b + o0)), (1, .ref (b + o1)), (2, .int x2), (3, .int x3)] → W p l e rmX1_thoughtAhead s m args below meth c H locs 0 0 (MQ below (va_Qi (fun x (_ : Unit) => x = res) (fun _ t => PW E b M TC MM TM t) (AA b)) args s 0 0 (AA b)) (F0 m 22 ls []) := by
  have hx := X.1
  have hb := X.2.1
  intro x2 x3 M hf H locs ls hw hl
  rw [gX1_thoughtAhead_22] at hf
  refine lv_aload_n hx hb dX1_thoughtAhead_22 rfl (lv_at hl 1 rfl) ?_
  refine lv_iload_n hx hb dX1_thoughtAhead_23 rfl (lv_at hl 2 rfl) ?_
  refine lv_aload_n hx hb dX1_thoughtAhead_24 rfl (lv_at hl 0 rfl) ?_
  refine gt_X1 X hw 4 h0 rfl (by decide) mw_186 rfl dX1_thoughtAhead_25 ?_
  refine lv_iload_n hx hb dX1_thoughtAhead_28 rfl (lv_at hl 3 rfl) ?_
  refine lv_iadd hx hb dX1_thoughtAhead_29 ?_
  obtain ⟨u52, q53, hf⟩ := ob hf
  refine cVi (As := [.int x2, .int ((M o0 4) + x3)]) X hw (ctX6_usualThought l E b h1 q53) ⟨mw_464, mw_465, mw_466, mw_55, mw_467⟩ hd_X6_usualThought ⟨Nat.le_of_ble_eq_true rfl, Nat.le_of_ble_eq_true rfl, rfl, rfl⟩ (kdk h1 (by decide)) (ce_X6 E _ _ _ _ h1) (show vwCl[6]? = some (RX6, TX6, 6) from rfl) rfl hl.1 rfl (Nat.le_of_ble_eq_true rfl) dX1_thoughtAhead_30 (fun H locs hw => ?_)
  replace hf := Option.some.inj hf
  subst hf
  exact eI X hw hr hlk dX1_thoughtAhead_33
set_option maxHeartbeats 4000000 in
set_option maxRecDepth 100000 in
theorem ctX1_thoughtAhead (l : Launch) (E : EE) (b : Nat) {TC : Int64} {MM : Mem} {TM : Int64} {o0 : Nat} {o1 : Nat} {x2 : Int32} {x3 : Int32} {M : Mem} {res : Int32} (h0 : (kd o0).1 = 3) (h1 : (kd o1).1 = 6) (hf : gX1_thoughtAhead o0 o1 x2 x3 M = some res) : MetI l E b yX1_thoughtAhead (.code yX1_thoughtAhead cX1_thoughtAhead 4 (some .int)) rmX1_thoughtAhead [.ref (b + o0), .ref (b + o1), .int x2, .int x3] M TC MM TM res M TC MM TM := by
  refine Met.ofW (cc := cX1_thoughtAhead) (maxL := 4) (ret := (some .int)) (by decide) rfl ?_
  intro p e s m args below meth c s₁ B hml hv
  obtain ⟨rfl, hP, hK⟩ := hv
  have hx := B.exec
  have hb := B.bytes
  have X : CX E p s m _ c cX1_thoughtAhead 4 RX1 := ⟨hx, hb, hml, findClass_of_methodNamed B.named, fun w h => atoms_spec (ws := _ :: wt) B.pre w (List.mem_cons_of_mem _ h), hK⟩
  have hr := B.returns
  have hlk := B.notSynchronized
  have hw : WW E b M TC MM TM s s.heap [] := ⟨hP, va_S.rf⟩
  have hl := lv_entry ([.ref (b + o0), .ref (b + o1), .int x2, .int x3]) (n := 4) (Nat.le_of_ble_eq_true rfl)
  rw [lg_entry_eq]
  generalize (lg_sl ([.ref (b + o0), .ref (b + o1), .int x2, .int x3]) ++ List.replicate (4 - (lg_sl ([.ref (b + o0), .ref (b + o1), .int x2, .int x3])).length) Slot.unset).toArray = ls at hl ⊢
  have hl : lv_has ls 4 [(0, .ref (b + o0)), (1, .ref (b + o1)), (2, .int x2), (3, .int x3)] := hl
  obtain ⟨H, hH⟩ : ∃ H, H = s.heap := ⟨_, rfl⟩
  obtain ⟨locs, hL⟩ : ∃ L : List Loc, L = [] := ⟨_, rfl⟩
  rw [← hH, ← hL] at hw
  suffices hg : W p l e rmX1_thoughtAhead s m _ below meth c H locs 0 0 (MQ below (va_Qi (fun x (_ : Unit) => x = res) (fun _ t => PW E b M TC MM TM t) (AA b)) _ s 0 0 (AA b)) (F0 m 0 ls []) by rw [hH, hL] at hg; exact hg
  clear hH hL
  rw [gX1_thoughtAhead] at hf
  refine lv_iload_n hx hb dX1_thoughtAhead_0 rfl (lv_at hl 3 rfl) ?_
  refine lv_if_ne (tgt := 22) hx hb dX1_thoughtAhead_1 (by decide) (fun c51 => ?_) (fun c51 => ?_)
  · replace hf := (if_neg c51).symm.trans hf
    exact tX1_thoughtAhead_22 X hr hlk h0 h1 x2 x3 M hf H locs ls hw (lv_sub hl [0, 1, 2, 3] rfl)
  · replace hf := (if_pos c51).symm.trans hf
    refine lv_aload_n hx hb dX1_thoughtAhead_4 rfl (lv_at hl 0 rfl) ?_
    refine gt_X1 X hw 1 h0 rfl (by decide) mw_182 rfl dX1_thoughtAhead_5 ?_
    refine lv_iload_n hx hb dX1_thoughtAhead_8 rfl (lv_at hl 2 rfl) ?_
    obtain ⟨v54, q55, hf⟩ := ob hf
    refine aldC X hw (kr_X1_1 h0) q55 dX1_thoughtAhead_9 ?_
    refine lv_bipush (v := (-9)) hx hb dX1_thoughtAhead_10 (by decide) ?_
    refine lv_icmp_eq (tgt := 22) hx hb dX1_thoughtAhead_12 (by decide) (fun c56 => ?_) (fun c56 => ?_)
    · replace hf := (if_pos c56).symm.trans hf
      exact tX1_thoughtAhead_22 X hr hlk h0 h1 x2 x3 M hf H locs ls hw (lv_sub hl [0, 1, 2, 3] rfl)
    · replace hf := (if_neg c56).symm.trans hf
      refine lv_aload_n hx hb dX1_thoughtAhead_15 rfl (lv_at hl 0 rfl) ?_
      refine gt_X1 X hw 1 h0 rfl (by decide) mw_182 rfl dX1_thoughtAhead_16 ?_
      refine lv_iload_n hx hb dX1_thoughtAhead_19 rfl (lv_at hl 2 rfl) ?_
      obtain ⟨v57, q58, hf⟩ := ob hf
      refine aldC X hw (kr_X1_1 h0) q58 dX1_thoughtAhead_20 ?_
      replace hf := Option.some.inj hf
      subst hf
      exact eI X hw hr hlk dX1_thoughtAhead_21

abbrev rmX1_dropTips : Room := { frames := 0, cells := 0, slots := 0, locals := 0 }
theorem hd_X1_dropTips : Hd yX1_dropTips RX1 2 := by decide +kernel
def gX1_dropTips_18 (o0 : Nat)  : Nat → Int32 → Int32 → Int32 → Int32 → Mem → Option (Mem)
  | 0, _, _, _, _, _ => none
  | n + 1, x1, x2, x3, x4, M => (ldA 5 (M (o0 + 1)) x1).bind fun v64 => if v64 ≤ x4 then (some (M)) else ((ldA 60 (M (o0 + 3)) ((x3 + x2) + x4)).bind fun v67 => (stA 60 M (o0 + 3) (x3 + x4) v67).bind fun M69 => (some (x4 + 1)).bind fun z71 => (gX1_dropTips_18 o0 n) x1 x2 x3 z71 M69)
def gX1_dropTips (o0 : Nat) (x1 : Int32) (x2 : Int32) (M : Mem) : Option (Mem) := (some (x1 * 12)).bind fun z59 => (ldA 5 (M (o0 + 1)) x1).bind fun v60 => (stA 5 M (o0 + 1) x1 (v60 - x2)).bind fun M62 => gX1_dropTips_18 o0 FU x1 x2 z59 0 M62
set_option maxHeartbeats 4000000 in
set_option maxRecDepth 100000 in
theorem tX1_dropTips_18 {p : Program} {l : Launch} {e : Env} {s : State} {m : MethodId} {args : Array Value} {below : List Frame} {meth : Method} {c : Code} {E : EE} {b : Nat} {TC : Int64} {MM : Mem} {TM : Int64} {res : Mem} (X : CX E p s m args c cX1_dropTips 5 RX1) (hr : meth.sig.returnType = none) (hlk : meth.locks = false) {o0 : Nat} (h0 : (kd o0).1 = 3)  : ∀ (n : Nat) (x1 : Int32) (x2 : Int32) (x3 : Int32) (x4 : Int32) (M : Mem), gX1_dropTips_18 o0 n x1 x2 x3 x4 M = some res → ∀ (H : Heap) (locs : List Loc) (ls : Array Slot), WW E b M TC MM TM s H locs → lv_has ls 5 [(0, .ref (b + o0)), (1, .int x1), (2, .int x2), (3, .int x3), (4, .int x4)] → W p l e rmX1_dropTips s m args below meth c H locs 0 0 (MQ below (va_Qv (fun (_ : Unit) => True) (fun _ t => PW E b res TC MM TM t) (AA b)) args s 0 0 (AA b)) (F0 m 18 ls []) := by
  have hx := X.1
  have hb := X.2.1
  intro n
  induction n with
  | zero =>
    intro x1 x2 x3 x4 M hf
    cases (show (none : Option (Mem)) = some res from hf)
  | succ n ih =>
    intro x1 x2 x3 x4 M hf H locs ls hw hl
    rw [gX1_dropTips_18] at hf
    refine lv_iload hx hb dX1_dropTips_18 (lv_at hl 4 rfl) ?_
    refine lv_aload_n hx hb dX1_dropTips_20 rfl (lv_at hl 0 rfl) ?_
    refine gt_X1 X hw 0 h0 rfl (by decide) mw_178 rfl dX1_dropTips_21 ?_
    refine lv_iload_n hx hb dX1_dropTips_24 rfl (lv_at hl 1 rfl) ?_
    obtain ⟨v64, q65, hf⟩ := ob hf
    refine aldC X hw (kr_X1_0 h0) q65 dX1_dropTips_25 ?_
    refine lv_icmp_ge (tgt := 55) hx hb dX1_dropTips_26 (by decide) (fun c66 => ?_) (fun c66 => ?_)
    · replace hf := (if_pos c66).symm.trans hf
      replace hf := Option.some.inj hf
      subst hf
      exact eV X hw hr hlk dX1_dropTips_55
    · replace hf := (if_neg c66).symm.trans hf
      refine lv_aload_n hx hb dX1_dropTips_29 rfl (lv_at hl 0 rfl) ?_
      refine gt_X1 X hw 2 h0 rfl (by decide) mw_184 rfl dX1_dropTips_30 ?_
      refine lv_iload_n hx hb dX1_dropTips_33 rfl (lv_at hl 3 rfl) ?_
      refine lv_iload hx hb dX1_dropTips_34 (lv_at hl 4 rfl) ?_
      refine lv_iadd hx hb dX1_dropTips_36 ?_
      refine lv_aload_n hx hb dX1_dropTips_37 rfl (lv_at hl 0 rfl) ?_
      refine gt_X1 X hw 2 h0 rfl (by decide) mw_184 rfl dX1_dropTips_38 ?_
      refine lv_iload_n hx hb dX1_dropTips_41 rfl (lv_at hl 3 rfl) ?_
      refine lv_iload_n hx hb dX1_dropTips_42 rfl (lv_at hl 2 rfl) ?_
      refine lv_iadd hx hb dX1_dropTips_43 ?_
      refine lv_iload hx hb dX1_dropTips_44 (lv_at hl 4 rfl) ?_
      refine lv_iadd hx hb dX1_dropTips_46 ?_
      obtain ⟨v67, q68, hf⟩ := ob hf
      refine aldC X hw (kr_X1_2 h0) q68 dX1_dropTips_47 ?_
      obtain ⟨M69, q70, hf⟩ := ob hf
      refine astC X hw (kr_X1_2 h0) q70 dX1_dropTips_48 (fun H locs hw => ?_)
      obtain ⟨z71, ez71⟩ : ∃ y : Int32, y = x4 + 1 := ⟨_, rfl⟩
      replace hf := nmb hf ez71
      refine lv_iinc (v := z71) (lv' := [(4, .int z71), (0, .ref (b + o0)), (1, .int x1), (2, .int x2), (3, .int x3)]) hx hb dX1_dropTips_49 hl (k := 4) rfl (by rw [ez71]; rfl) (by decide) rfl (fun ls hl => ?_)
      refine lv_goto (tgt := 18) hx hb dX1_dropTips_52 (by decide) ?_
      exact ih x1 x2 x3 z71 M69 hf H locs ls hw (lv_sub hl [1, 2, 3, 4, 0] rfl)
set_option maxHeartbeats 4000000 in
set_option maxRecDepth 100000 in
theorem ctX1_dropTips (l : Launch) (E : EE) (b : Nat) {TC : Int64} {MM : Mem} {TM : Int64} {o0 : Nat} {x1 : Int32} {x2 : Int32} {M : Mem} {res : Mem} (h0 : (kd o0).1 = 3) (hf : gX1_dropTips o0 x1 x2 M = some res) : MetV l E b yX1_dropTips (.code yX1_dropTips cX1_dropTips 5 none) rmX1_dropTips [.ref (b + o0), .int x1, .int x2] M TC MM TM res TC MM TM := by
  refine Met.ofW (cc := cX1_dropTips) (maxL := 5) (ret := none) (by decide) rfl ?_
  intro p e s m args below meth c s₁ B hml hv
  obtain ⟨rfl, hP, hK⟩ := hv
  have hx := B.exec
  have hb := B.bytes
  have X : CX E p s m _ c cX1_dropTips 5 RX1 := ⟨hx, hb, hml, findClass_of_methodNamed B.named, fun w h => atoms_spec (ws := _ :: wt) B.pre w (List.mem_cons_of_mem _ h), hK⟩
  have hr := B.returns
  have hlk := B.notSynchronized
  have hw : WW E b M TC MM TM s s.heap [] := ⟨hP, va_S.rf⟩
  have hl := lv_entry ([.ref (b + o0), .int x1, .int x2]) (n := 5) (Nat.le_of_ble_eq_true rfl)
  rw [lg_entry_eq]
  generalize (lg_sl ([.ref (b + o0), .int x1, .int x2]) ++ List.replicate (5 - (lg_sl ([.ref (b + o0), .int x1, .int x2])).length) Slot.unset).toArray = ls at hl ⊢
  have hl : lv_has ls 5 [(0, .ref (b + o0)), (1, .int x1), (2, .int x2)] := hl
  obtain ⟨H, hH⟩ : ∃ H, H = s.heap := ⟨_, rfl⟩
  obtain ⟨locs, hL⟩ : ∃ L : List Loc, L = [] := ⟨_, rfl⟩
  rw [← hH, ← hL] at hw
  suffices hg : W p l e rmX1_dropTips s m _ below meth c H locs 0 0 (MQ below (va_Qv (fun (_ : Unit) => True) (fun _ t => PW E b res TC MM TM t) (AA b)) _ s 0 0 (AA b)) (F0 m 0 ls []) by rw [hH, hL] at hg; exact hg
  clear hH hL
  rw [gX1_dropTips] at hf
  refine lv_iload_n hx hb dX1_dropTips_0 rfl (lv_at hl 1 rfl) ?_
  refine lv_bipush (v := 12) hx hb dX1_dropTips_1 (by decide) ?_
  refine lv_imul hx hb dX1_dropTips_3 ?_
  refine lv_topi (fun z59 ez59 => ?_)
  replace hf := nmb hf ez59
  refine lv_istore_n (lv' := [(3, .int z59), (0, .ref (b + o0)), (1, .int x1), (2, .int x2)]) hx hb dX1_dropTips_4 rfl hl (by decide) rfl (fun ls hl => ?_)
  refine lv_aload_n hx hb dX1_dropTips_5 rfl (lv_at hl 1 rfl) ?_
  refine gt_X1 X hw 0 h0 rfl (by decide) mw_178 rfl dX1_dropTips_6 ?_
  refine lv_iload_n hx hb dX1_dropTips_9 rfl (lv_at hl 2 rfl) ?_
  refine lv_dup2_11 hx hb dX1_dropTips_10 rfl rfl ?_
  obtain ⟨v60, q61, hf⟩ := ob hf
  refine aldC X hw (kr_X1_0 h0) q61 dX1_dropTips_11 ?_
  refine lv_iload_n hx hb dX1_dropTips_12 rfl (lv_at hl 3 rfl) ?_
  refine lv_isub hx hb dX1_dropTips_13 ?_
  obtain ⟨M62, q63, hf⟩ := ob hf
  refine astC X hw (kr_X1_0 h0) q63 dX1_dropTips_14 (fun H locs hw => ?_)
  refine lv_iconst (v := 0) hx hb dX1_dropTips_15 (by decide) ?_
  refine lv_istore (lv' := [(4, .int 0), (3, .int z59), (0, .ref (b + o0)), (1, .int x1), (2, .int x2)]) hx hb dX1_dropTips_16 hl (by decide) rfl (fun ls hl => ?_)
  exact tX1_dropTips_18 X hr hlk h0 FU x1 x2 z59 0 M62 hf H locs ls hw (lv_sub hl [2, 3, 4, 1, 0] rfl)

abbrev rmX1_passDay : Room := { frames := 2, cells := 0, slots := 0, locals := 46 }
theorem hd_X1_passDay : Hd yX1_passDay RX1 1 := by decide +kernel
def gX1_passDay_45 (o0 : Nat) (o1 : Nat) (k2 : Int32 → Mem → Option (Mem)) (x2 : Int32) (x3 : Int32) (M : Mem) : Option (Mem) := (ldA 5 (M (o0 + 1)) x2).bind fun v81 => (stA 60 M (o0 + 3) ((x2 * 12) + v81) x3).bind fun M83 => (ldA 5 (M83 (o0 + 1)) x2).bind fun v85 => (stA 5 M83 (o0 + 1) x2 (v85 + 1)).bind fun M87 => (some (x2 + 1)).bind fun z89 => k2 z89 M87
def gX1_passDay_2 (o0 : Nat) (o1 : Nat)  : Nat → Int32 → Mem → Option (Mem)
  | 0, _, _ => none
  | n + 1, x2, M => if (M o1 3) ≤ x2 then ((some (us M o0 4 ((M o0 4) + 1))).bind fun M73 => some (M73)) else ((gX1_thoughtAhead o0 o1 x2 0 M).bind fun u74 => (stA 5 M (o0 + 2) x2 ((-9))).bind fun M76 => (ldA 5 (M76 (o0 + 1)) x2).bind fun v78 => if v78 < (M76 o1 4) then (gX1_passDay_45 o0 o1 (gX1_passDay_2 o0 o1 n) x2 u74 M76) else ((gX1_dropTips o0 x2 1 M76).bind fun u90 => gX1_passDay_45 o0 o1 (gX1_passDay_2 o0 o1 n) x2 u74 u90))
def gX1_passDay (o0 : Nat) (o1 : Nat) (M : Mem) : Option (Mem) := gX1_passDay_2 o0 o1 FU 0 M
set_option maxHeartbeats 4000000 in
set_option maxRecDepth 100000 in
theorem tX1_passDay_45 {p : Program} {l : Launch} {e : Env} {s : State} {m : MethodId} {args : Array Value} {below : List Frame} {meth : Method} {c : Code} {E : EE} {b : Nat} {TC : Int64} {MM : Mem} {TM : Int64} {res : Mem} (X : CX E p s m args c cX1_passDay 4 RX1) (hr : meth.sig.returnType = none) (hlk : meth.locks = false) {o0 : Nat} {o1 : Nat} (h0 : (kd o0).1 = 3) (h1 : (kd o1).1 = 6) {k2 : Int32 → Mem → Option (Mem)} (hk2 : ∀ (x2 : Int32) (M : Mem), k2 x2 M = some res → ∀ (H : Heap) (locs : List Loc) (ls : Array Slot), WW E b M TC MM TM s H locs → lv_has ls 4 [(0, .ref (b + o0)), (1, .ref (b + o1)), (2, .int x2)] → W p l e rmX1_passDay s m args below meth c H locs 0 0 (MQ below (va_Qv (fun (_ : Unit) => True) (fun _ t => PW E b res TC MM TM t) (AA b)) args s 0 0 (AA b)) (F0 m 2 ls [])) : ∀ (x2 : Int32) (x3 : Int32) (M : Mem), gX1_passDay_45 o0 o1 k2 x2 x3 M = some res → ∀ (H : Heap) (locs : List Loc) (ls : Array Slot), WW E b M TC MM TM s H locs → lv_has ls 4 [(0, .ref (b + o0)), (1, .ref (b + o1)), (2, .int x2), (3, .int x3)] → W p l e rmX1_passDay s m args below meth c H locs 0 0 (MQ below (va_Qv (fun (_ : Unit) => True) (fun _ t => PW E b res TC MM TM t) (AA b)) args s 0 0 (AA b)) (F0 m 45 ls []) := by
  have hx := X.1
  have hb := X.2.1
  intro x2 x3 M hf H locs ls hw hl
  rw [gX1_passDay_45] at hf
  refine lv_aload_n hx hb dX1_passDay_45 rfl (lv_at hl 0 rfl) ?_
  refine gt_X1 X hw 2 h0 rfl (by decide) mw_184 rfl dX1_passDay_46 ?_
  refine lv_iload_n hx hb dX1_passDay_49 rfl (lv_at hl 2 rfl) ?_
  refine lv_bipush (v := 12) hx hb dX1_passDay_50 (by decide) ?_
  refine lv_imul hx hb dX1_passDay_52 ?_
  refine lv_aload_n hx hb dX1_passDay_53 rfl (lv_at hl 0 rfl) ?_
  refine gt_X1 X hw 0 h0 rfl (by decide) mw_178 rfl dX1_passDay_54 ?_
  refine lv_iload_n hx hb dX1_passDay_57 rfl (lv_at hl 2 rfl) ?_
  obtain ⟨v81, q82, hf⟩ := ob hf
  refine aldC X hw (kr_X1_0 h0) q82 dX1_passDay_58 ?_
  refine lv_iadd hx hb dX1_passDay_59 ?_
  refine lv_iload_n hx hb dX1_passDay_60 rfl (lv_at hl 3 rfl) ?_
  obtain ⟨M83, q84, hf⟩ := ob hf
  refine astC X hw (kr_X1_2 h0) q84 dX1_passDay_61 (fun H locs hw => ?_)
  refine lv_aload_n hx hb dX1_passDay_62 rfl (lv_at hl 0 rfl) ?_
  refine gt_X1 X hw 0 h0 rfl (by decide) mw_178 rfl dX1_passDay_63 ?_
  refine lv_iload_n hx hb dX1_passDay_66 rfl (lv_at hl 2 rfl) ?_
  refine lv_dup2_11 hx hb dX1_passDay_67 rfl rfl ?_
  obtain ⟨v85, q86, hf⟩ := ob hf
  refine aldC X hw (kr_X1_0 h0) q86 dX1_passDay_68 ?_
  refine lv_iconst (v := 1) hx hb dX1_passDay_69 (by decide) ?_
  refine lv_iadd hx hb dX1_passDay_70 ?_
  obtain ⟨M87, q88, hf⟩ := ob hf
  refine astC X hw (kr_X1_0 h0) q88 dX1_passDay_71 (fun H locs hw => ?_)
  obtain ⟨z89, ez89⟩ : ∃ y : Int32, y = x2 + 1 := ⟨_, rfl⟩
  replace hf := nmb hf ez89
  refine lv_iinc (v := z89) (lv' := [(2, .int z89), (0, .ref (b + o0)), (1, .ref (b + o1)), (3, .int x3)]) hx hb dX1_passDay_72 hl (k := 2) rfl (by rw [ez89]; rfl) (by decide) rfl (fun ls hl => ?_)
  refine lv_goto (tgt := 2) hx hb dX1_passDay_75 (by decide) ?_
  exact hk2 z89 M87 hf H locs ls hw (lv_sub hl [1, 2, 0] rfl)
set_option maxHeartbeats 4000000 in
set_option maxRecDepth 100000 in
theorem tX1_passDay_2 {p : Program} {l : Launch} {e : Env} {s : State} {m : MethodId} {args : Array Value} {below : List Frame} {meth : Method} {c : Code} {E : EE} {b : Nat} {TC : Int64} {MM : Mem} {TM : Int64} {res : Mem} (X : CX E p s m args c cX1_passDay 4 RX1) (hr : meth.sig.returnType = none) (hlk : meth.locks = false) {o0 : Nat} {o1 : Nat} (h0 : (kd o0).1 = 3) (h1 : (kd o1).1 = 6)  : ∀ (n : Nat) (x2 : Int32) (M : Mem), gX1_passDay_2 o0 o1 n x2 M = some res → ∀ (H : Heap) (locs : List Loc) (ls : Array Slot), WW E b M TC MM TM s H locs → lv_has ls 4 [(0, .ref (b + o0)), (1, .ref (b + o1)), (2, .int x2)] → W p l e rmX1_passDay s m args below meth c H locs 0 0 (MQ below (va_Qv (fun (_ : Unit) => True) (fun _ t => PW E b res TC MM TM t) (AA b)) args s 0 0 (AA b)) (F0 m 2 ls []) := by
  have hx := X.1
  have hb := X.2.1
  intro n
  induction n with
  | zero =>
    intro x2 M hf
    cases (show (none : Option (Mem)) = some res from hf)
  | succ n ih =>
    intro x2 M hf H locs ls hw hl
    rw [gX1_passDay_2] at hf
    refine lv_iload_n hx hb dX1_passDay_2 rfl (lv_at hl 2 rfl) ?_
    refine lv_aload_n hx hb dX1_passDay_3 rfl (lv_at hl 1 rfl) ?_
    refine gt_X6 X hw 3 h1 rfl (by decide) mw_113 rfl dX1_passDay_4 ?_
    refine lv_icmp_ge (tgt := 78) hx hb dX1_passDay_7 (by decide) (fun c72 => ?_) (fun c72 => ?_)
    · replace hf := (if_pos c72).symm.trans hf
      refine lv_aload_n hx hb dX1_passDay_78 rfl (lv_at hl 0 rfl) ?_
      refine lv_dup hx hb dX1_passDay_79 rfl ?_
      refine gt_X1 X hw 4 h0 rfl (by decide) mw_186 rfl dX1_passDay_80 ?_
      refine lv_iconst (v := 1) hx hb dX1_passDay_83 (by decide) ?_
      refine lv_iadd hx hb dX1_passDay_84 ?_
      obtain ⟨M73, eM73, hf⟩ := ob hf
      refine pt_X1_4 X hw h0 mw_186 dX1_passDay_85 (fun H locs hw => ?_)
      rw [Option.some.inj eM73] at hw
      replace hf := Option.some.inj hf
      subst hf
      exact eV X hw hr hlk dX1_passDay_88
    · replace hf := (if_neg c72).symm.trans hf
      refine lv_aload_n hx hb dX1_passDay_10 rfl (lv_at hl 0 rfl) ?_
      refine lv_aload_n hx hb dX1_passDay_11 rfl (lv_at hl 1 rfl) ?_
      refine lv_iload_n hx hb dX1_passDay_12 rfl (lv_at hl 2 rfl) ?_
      refine lv_iconst (v := 0) hx hb dX1_passDay_13 (by decide) ?_
      obtain ⟨u74, q75, hf⟩ := ob hf
      refine cVi (As := [.ref (b + o1), .int x2, .int 0]) X hw (ctX1_thoughtAhead l E b h0 h1 q75) ⟨mw_460, mw_461, mw_462, mw_57, mw_463⟩ hd_X1_thoughtAhead ⟨Nat.le_of_ble_eq_true rfl, Nat.le_of_ble_eq_true rfl, rfl, rfl⟩ (kdk h0 (by decide)) (ce_X1 E _ _ _ _ h0) (show vwCl[1]? = some (RX1, TX1, 6) from rfl) rfl hl.1 rfl (Nat.le_of_ble_eq_true rfl) dX1_passDay_14 (fun H locs hw => ?_)
      refine lv_istore_n (lv' := [(3, .int u74), (0, .ref (b + o0)), (1, .ref (b + o1)), (2, .int x2)]) hx hb dX1_passDay_17 rfl hl (by decide) rfl (fun ls hl => ?_)
      refine lv_aload_n hx hb dX1_passDay_18 rfl (lv_at hl 1 rfl) ?_
      refine gt_X1 X hw 1 h0 rfl (by decide) mw_182 rfl dX1_passDay_19 ?_
      refine lv_iload_n hx hb dX1_passDay_22 rfl (lv_at hl 3 rfl) ?_
      refine lv_bipush (v := (-9)) hx hb dX1_passDay_23 (by decide) ?_
      obtain ⟨M76, q77, hf⟩ := ob hf
      refine astC X hw (kr_X1_1 h0) q77 dX1_passDay_25 (fun H locs hw => ?_)
      refine lv_aload_n hx hb dX1_passDay_26 rfl (lv_at hl 1 rfl) ?_
      refine gt_X1 X hw 0 h0 rfl (by decide) mw_178 rfl dX1_passDay_27 ?_
      refine lv_iload_n hx hb dX1_passDay_30 rfl (lv_at hl 3 rfl) ?_
      obtain ⟨v78, q79, hf⟩ := ob hf
      refine aldC X hw (kr_X1_0 h0) q79 dX1_passDay_31 ?_
      refine lv_aload_n hx hb dX1_passDay_32 rfl (lv_at hl 2 rfl) ?_
      refine gt_X6 X hw 4 h1 rfl (by decide) mw_118 rfl dX1_passDay_33 ?_
      refine lv_icmp_lt (tgt := 45) hx hb dX1_passDay_36 (by decide) (fun c80 => ?_) (fun c80 => ?_)
      · replace hf := (if_pos c80).symm.trans hf
        exact tX1_passDay_45 X hr hlk h0 h1 ih x2 u74 M76 hf H locs ls hw (lv_sub hl [1, 2, 3, 0] rfl)
      · replace hf := (if_neg c80).symm.trans hf
        refine lv_aload_n hx hb dX1_passDay_39 rfl (lv_at hl 1 rfl) ?_
        refine lv_iload_n hx hb dX1_passDay_40 rfl (lv_at hl 3 rfl) ?_
        refine lv_iconst (v := 1) hx hb dX1_passDay_41 (by decide) ?_
        obtain ⟨u90, q91, hf⟩ := ob hf
        refine cVv (As := [.int x2, .int 1]) X hw (ctX1_dropTips l E b h0 q91) ⟨mw_468, mw_470, mw_11, mw_57, mw_471⟩ hd_X1_dropTips ⟨Nat.le_of_ble_eq_true rfl, Nat.le_of_ble_eq_true rfl, rfl, rfl⟩ (kdk h0 (by decide)) (ce_X1 E _ _ _ _ h0) (show vwCl[1]? = some (RX1, TX1, 6) from rfl) rfl hl.1 rfl (Nat.le_of_ble_eq_true rfl) dX1_passDay_42 (fun H locs hw => ?_)
        exact tX1_passDay_45 X hr hlk h0 h1 ih x2 u74 u90 hf H locs ls hw (lv_sub hl [1, 2, 3, 0] rfl)
set_option maxHeartbeats 4000000 in
set_option maxRecDepth 100000 in
theorem ctX1_passDay (l : Launch) (E : EE) (b : Nat) {TC : Int64} {MM : Mem} {TM : Int64} {o0 : Nat} {o1 : Nat} {M : Mem} {res : Mem} (h0 : (kd o0).1 = 3) (h1 : (kd o1).1 = 6) (hf : gX1_passDay o0 o1 M = some res) : MetV l E b yX1_passDay (.code yX1_passDay cX1_passDay 4 none) rmX1_passDay [.ref (b + o0), .ref (b + o1)] M TC MM TM res TC MM TM := by
  refine Met.ofW (cc := cX1_passDay) (maxL := 4) (ret := none) (by decide) rfl ?_
  intro p e s m args below meth c s₁ B hml hv
  obtain ⟨rfl, hP, hK⟩ := hv
  have hx := B.exec
  have hb := B.bytes
  have X : CX E p s m _ c cX1_passDay 4 RX1 := ⟨hx, hb, hml, findClass_of_methodNamed B.named, fun w h => atoms_spec (ws := _ :: wt) B.pre w (List.mem_cons_of_mem _ h), hK⟩
  have hr := B.returns
  have hlk := B.notSynchronized
  have hw : WW E b M TC MM TM s s.heap [] := ⟨hP, va_S.rf⟩
  have hl := lv_entry ([.ref (b + o0), .ref (b + o1)]) (n := 4) (Nat.le_of_ble_eq_true rfl)
  rw [lg_entry_eq]
  generalize (lg_sl ([.ref (b + o0), .ref (b + o1)]) ++ List.replicate (4 - (lg_sl ([.ref (b + o0), .ref (b + o1)])).length) Slot.unset).toArray = ls at hl ⊢
  have hl : lv_has ls 4 [(0, .ref (b + o0)), (1, .ref (b + o1))] := hl
  obtain ⟨H, hH⟩ : ∃ H, H = s.heap := ⟨_, rfl⟩
  obtain ⟨locs, hL⟩ : ∃ L : List Loc, L = [] := ⟨_, rfl⟩
  rw [← hH, ← hL] at hw
  suffices hg : W p l e rmX1_passDay s m _ below meth c H locs 0 0 (MQ below (va_Qv (fun (_ : Unit) => True) (fun _ t => PW E b res TC MM TM t) (AA b)) _ s 0 0 (AA b)) (F0 m 0 ls []) by rw [hH, hL] at hg; exact hg
  clear hH hL
  rw [gX1_passDay] at hf
  refine lv_iconst (v := 0) hx hb dX1_passDay_0 (by decide) ?_
  refine lv_istore_n (lv' := [(2, .int 0), (0, .ref (b + o0)), (1, .ref (b + o1))]) hx hb dX1_passDay_1 rfl hl (by decide) rfl (fun ls hl => ?_)
  exact tX1_passDay_2 X hr hlk h0 h1 FU 0 M hf H locs ls hw (lv_sub hl [1, 2, 0] rfl)

abbrev rmX1_sweep : Room := { frames := 1, cells := 0, slots := 0, locals := 24 }
theorem hd_X1_sweep : Hd yX1_sweep RX1 2 := by decide +kernel
def gX1_sweep_2 (o0 : Nat)  : Nat → Int32 → Int32 → Int32 → Mem → Option (Mem)
  | 0, _, _, _, _ => none
  | n + 1, x1, x2, x3, M => if x2 ≤ x3 then ((gX1_dropTips o0 x1 x2 M).bind fun u93 => some (u93)) else ((gX1_layerAt o0 x1 x3 M).bind fun u95 => (some (((M o0 5) * 10) + u95)).bind fun z97 => (ldA 40 (M (o0 + 4)) z97).bind fun v98 => (some (mn (v98 + 1) 99)).bind fun z100 => (stA 40 M (o0 + 4) z97 z100).bind fun M101 => (some (x3 + 1)).bind fun z103 => (gX1_sweep_2 o0 n) x1 x2 z103 M101)
def gX1_sweep (o0 : Nat) (x1 : Int32) (x2 : Int32) (M : Mem) : Option (Mem) := gX1_sweep_2 o0 FU x1 x2 0 M
set_option maxHeartbeats 4000000 in
set_option maxRecDepth 100000 in
theorem tX1_sweep_2 {p : Program} {l : Launch} {e : Env} {s : State} {m : MethodId} {args : Array Value} {below : List Frame} {meth : Method} {c : Code} {E : EE} {b : Nat} {TC : Int64} {MM : Mem} {TM : Int64} {res : Mem} (X : CX E p s m args c cX1_sweep 5 RX1) (hr : meth.sig.returnType = none) (hlk : meth.locks = false) {o0 : Nat} (h0 : (kd o0).1 = 3)  : ∀ (n : Nat) (x1 : Int32) (x2 : Int32) (x3 : Int32) (M : Mem), gX1_sweep_2 o0 n x1 x2 x3 M = some res → ∀ (H : Heap) (locs : List Loc) (ls : Array Slot), WW E b M TC MM TM s H locs → lv_has ls 5 [(0, .ref (b + o0)), (1, .int x1), (2, .int x2), (3, .int x3)] → W p l e rmX1_sweep s m args below meth c H locs 0 0 (MQ below (va_Qv (fun (_ : Unit) => True) (fun _ t => PW E b res TC MM TM t) (AA b)) args s 0 0 (AA b)) (F0 m 2 ls []) := by
  have hx := X.1
  have hb := X.2.1
  intro n
  induction n with
  | zero =>
    intro x1 x2 x3 M hf
    cases (show (none : Option (Mem)) = some res from hf)
  | succ n ih =>
    intro x1 x2 x3 M hf H locs ls hw hl
    rw [gX1_sweep_2] at hf
    refine lv_iload_n hx hb dX1_sweep_2 rfl (lv_at hl 3 rfl) ?_
    refine lv_iload_n hx hb dX1_sweep_3 rfl (lv_at hl 2 rfl) ?_
    refine lv_icmp_ge (tgt := 50) hx hb dX1_sweep_4 (by decide) (fun c92 => ?_) (fun c92 => ?_)
    · replace hf := (if_pos c92).symm.trans hf
      refine lv_aload_n hx hb dX1_sweep_50 rfl (lv_at hl 0 rfl) ?_
      refine lv_iload_n hx hb dX1_sweep_51 rfl (lv_at hl 1 rfl) ?_
      refine lv_iload_n hx hb dX1_sweep_52 rfl (lv_at hl 2 rfl) ?_
      obtain ⟨u93, q94, hf⟩ := ob hf
      refine cVv (As := [.int x1, .int x2]) X hw (ctX1_dropTips l E b h0 q94) ⟨mw_468, mw_470, mw_11, mw_57, mw_471⟩ hd_X1_dropTips ⟨Nat.le_of_ble_eq_true rfl, Nat.le_of_ble_eq_true rfl, rfl, rfl⟩ (kdk h0 (by decide)) (ce_X1 E _ _ _ _ h0) (show vwCl[1]? = some (RX1, TX1, 6) from rfl) rfl hl.1 rfl (Nat.le_of_ble_eq_true rfl) dX1_sweep_53 (fun H locs hw => ?_)
      replace hf := Option.some.inj hf
      subst hf
      exact eV X hw hr hlk dX1_sweep_56
    · replace hf := (if_neg c92).symm.trans hf
      refine lv_aload_n hx hb dX1_sweep_7 rfl (lv_at hl 0 rfl) ?_
      refine gt_X1 X hw 5 h0 rfl (by decide) mw_188 rfl dX1_sweep_8 ?_
      refine lv_bipush (v := 10) hx hb dX1_sweep_11 (by decide) ?_
      refine lv_imul hx hb dX1_sweep_13 ?_
      refine lv_aload_n hx hb dX1_sweep_14 rfl (lv_at hl 0 rfl) ?_
      refine lv_iload_n hx hb dX1_sweep_15 rfl (lv_at hl 1 rfl) ?_
      refine lv_iload_n hx hb dX1_sweep_16 rfl (lv_at hl 3 rfl) ?_
      obtain ⟨u95, q96, hf⟩ := ob hf
      refine cVi (As := [.int x1, .int x3]) X hw (ctX1_layerAt l E b h0 q96) ⟨mw_412, mw_413, mw_414, mw_57, mw_415⟩ hd_X1_layerAt ⟨Nat.le_of_ble_eq_true rfl, Nat.le_of_ble_eq_true rfl, rfl, rfl⟩ (kdk h0 (by decide)) (ce_X1 E _ _ _ _ h0) (show vwCl[1]? = some (RX1, TX1, 6) from rfl) rfl hl.1 rfl (Nat.le_of_ble_eq_true rfl) dX1_sweep_17 (fun H locs hw => ?_)
      refine lv_iadd hx hb dX1_sweep_20 ?_
      refine lv_topi (fun z97 ez97 => ?_)
      replace hf := nmb hf ez97
      refine lv_istore (lv' := [(4, .int z97), (0, .ref (b + o0)), (1, .int x1), (2, .int x2), (3, .int x3)]) hx hb dX1_sweep_21 hl (by decide) rfl (fun ls hl => ?_)
      refine lv_aload_n hx hb dX1_sweep_23 rfl (lv_at hl 1 rfl) ?_
      refine gt_X1 X hw 3 h0 rfl (by decide) mw_185 rfl dX1_sweep_24 ?_
      refine lv_iload hx hb dX1_sweep_27 (lv_at hl 0 rfl) ?_
      refine lv_aload_n hx hb dX1_sweep_29 rfl (lv_at hl 1 rfl) ?_
      refine gt_X1 X hw 3 h0 rfl (by decide) mw_185 rfl dX1_sweep_30 ?_
      refine lv_iload hx hb dX1_sweep_33 (lv_at hl 0 rfl) ?_
      obtain ⟨v98, q99, hf⟩ := ob hf
      refine aldC X hw (kr_X1_3 h0) q99 dX1_sweep_35 ?_
      refine lv_iconst (v := 1) hx hb dX1_sweep_36 (by decide) ?_
      refine lv_iadd hx hb dX1_sweep_37 ?_
      refine lv_bipush (v := 99) hx hb dX1_sweep_38 (by decide) ?_
      refine va_mmin hx hb (by rw [X.2.2.1]; exact hl.1.symm) X.2.2.2.1 (X.2.2.2.2.1 _ mw_484) (X.2.2.2.2.1 _ mw_354) (X.2.2.2.2.1 _ mw_62) (X.2.2.2.2.1 _ code_min) (Nat.le_of_ble_eq_true rfl) (Nat.le_of_ble_eq_true rfl) (Nat.zero_le _) (Nat.zero_le _) dX1_sweep_40 ?_
      refine lv_topi (fun z100 ez100 => ?_)
      replace hf := nmb hf ez100
      obtain ⟨M101, q102, hf⟩ := ob hf
      refine astC X hw (kr_X1_3 h0) q102 dX1_sweep_43 (fun H locs hw => ?_)
      obtain ⟨z103, ez103⟩ : ∃ y : Int32, y = x3 + 1 := ⟨_, rfl⟩
      replace hf := nmb hf ez103
      refine lv_iinc (v := z103) (lv' := [(3, .int z103), (4, .int z97), (0, .ref (b + o0)), (1, .int x1), (2, .int x2)]) hx hb dX1_sweep_44 hl (k := 4) rfl (by rw [ez103]; rfl) (by decide) rfl (fun ls hl => ?_)
      refine lv_goto (tgt := 2) hx hb dX1_sweep_47 (by decide) ?_
      exact ih x1 x2 z103 M101 hf H locs ls hw (lv_sub hl [2, 3, 4, 0] rfl)
set_option maxHeartbeats 4000000 in
set_option maxRecDepth 100000 in
theorem ctX1_sweep (l : Launch) (E : EE) (b : Nat) {TC : Int64} {MM : Mem} {TM : Int64} {o0 : Nat} {x1 : Int32} {x2 : Int32} {M : Mem} {res : Mem} (h0 : (kd o0).1 = 3) (hf : gX1_sweep o0 x1 x2 M = some res) : MetV l E b yX1_sweep (.code yX1_sweep cX1_sweep 5 none) rmX1_sweep [.ref (b + o0), .int x1, .int x2] M TC MM TM res TC MM TM := by
  refine Met.ofW (cc := cX1_sweep) (maxL := 5) (ret := none) (by decide) rfl ?_
  intro p e s m args below meth c s₁ B hml hv
  obtain ⟨rfl, hP, hK⟩ := hv
  have hx := B.exec
  have hb := B.bytes
  have X : CX E p s m _ c cX1_sweep 5 RX1 := ⟨hx, hb, hml, findClass_of_methodNamed B.named, fun w h => atoms_spec (ws := _ :: wt) B.pre w (List.mem_cons_of_mem _ h), hK⟩
  have hr := B.returns
  have hlk := B.notSynchronized
  have hw : WW E b M TC MM TM s s.heap [] := ⟨hP, va_S.rf⟩
  have hl := lv_entry ([.ref (b + o0), .int x1, .int x2]) (n := 5) (Nat.le_of_ble_eq_true rfl)
  rw [lg_entry_eq]
  generalize (lg_sl ([.ref (b + o0), .int x1, .int x2]) ++ List.replicate (5 - (lg_sl ([.ref (b + o0), .int x1, .int x2])).length) Slot.unset).toArray = ls at hl ⊢
  have hl : lv_has ls 5 [(0, .ref (b + o0)), (1, .int x1), (2, .int x2)] := hl
  obtain ⟨H, hH⟩ : ∃ H, H = s.heap := ⟨_, rfl⟩
  obtain ⟨locs, hL⟩ : ∃ L : List Loc, L = [] := ⟨_, rfl⟩
  rw [← hH, ← hL] at hw
  suffices hg : W p l e rmX1_sweep s m _ below meth c H locs 0 0 (MQ below (va_Qv (fun (_ : Unit) => True) (fun _ t => PW E b res TC MM TM t) (AA b)) _ s 0 0 (AA b)) (F0 m 0 ls []) by rw [hH, hL] at hg; exact hg
  clear hH hL
  rw [gX1_sweep] at hf
  refine lv_iconst (v := 0) hx hb dX1_sweep_0 (by decide) ?_
  refine lv_istore_n (lv' := [(3, .int 0), (0, .ref (b + o0)), (1, .int x1), (2, .int x2)]) hx hb dX1_sweep_1 rfl hl (by decide) rfl (fun ls hl => ?_)
  exact tX1_sweep_2 X hr hlk h0 FU x1 x2 0 M hf H locs ls hw (lv_sub hl [1, 2, 3, 0] rfl)

abbrev rmX1_pourOut : Room := { frames := 0, cells := 0, slots := 0, locals := 0 }
theorem hd_X1_pourOut : Hd yX1_pourOut RX1 1 := by decide +kernel
def gX1_pourOut_2 (o0 : Nat)  : Nat → Int32 → Int32 → Mem → Option (Mem)
  | 0, _, _, _ => none
  | n + 1, x1, x2, M => if 10 ≤ x2 then (some (M)) else ((stA 40 M (o0 + 4) ((x1 * 10) + x2) 0).bind fun M105 => (some (x2 + 1)).bind fun z107 => (gX1_pourOut_2 o0 n) x1 z107 M105)
def gX1_pourOut (o0 : Nat) (x1 : Int32) (M : Mem) : Option (Mem) := gX1_pourOut_2 o0 FU x1 0 M
set_option maxHeartbeats 4000000 in
set_option maxRecDepth 100000 in
theorem tX1_pourOut_2 {p : Program} {l : Launch} {e : Env} {s : State} {m : MethodId} {args : Array Value} {below : List Frame} {meth : Method} {c : Code} {E : EE} {b : Nat} {TC : Int64} {MM : Mem} {TM : Int64} {res : Mem} (X : CX E p s m args c cX1_pourOut 3 RX1) (hr : meth.sig.returnType = none) (hlk : meth.locks = false) {o0 : Nat} (h0 : (kd o0).1 = 3)  : ∀ (n : Nat) (x1 : Int32) (x2 : Int32) (M : Mem), gX1_pourOut_2 o0 n x1 x2 M = some res → ∀ (H : Heap) (locs : List Loc) (ls : Array Slot), WW E b M TC MM TM s H locs → lv_has ls 3 [(0, .ref (b + o0)), (1, .int x1), (2, .int x2)] → W p l e rmX1_pourOut s m args below meth c H locs 0 0 (MQ below (va_Qv (fun (_ : Unit) => True) (fun _ t => PW E b res TC MM TM t) (AA b)) args s 0 0 (AA b)) (F0 m 2 ls []) := by
  have hx := X.1
  have hb := X.2.1
  intro n
  induction n with
  | zero =>
    intro x1 x2 M hf
    cases (show (none : Option (Mem)) = some res from hf)
  | succ n ih =>
    intro x1 x2 M hf H locs ls hw hl
    rw [gX1_pourOut_2] at hf
    refine lv_iload_n hx hb dX1_pourOut_2 rfl (lv_at hl 2 rfl) ?_
    refine lv_bipush (v := 10) hx hb dX1_pourOut_3 (by decide) ?_
    refine lv_icmp_ge (tgt := 26) hx hb dX1_pourOut_5 (by decide) (fun c104 => ?_) (fun c104 => ?_)
    · replace hf := (if_pos c104).symm.trans hf
      replace hf := Option.some.inj hf
      subst hf
      exact eV X hw hr hlk dX1_pourOut_26
    · replace hf := (if_neg c104).symm.trans hf
      refine lv_aload_n hx hb dX1_pourOut_8 rfl (lv_at hl 0 rfl) ?_
      refine gt_X1 X hw 3 h0 rfl (by decide) mw_185 rfl dX1_pourOut_9 ?_
      refine lv_iload_n hx hb dX1_pourOut_12 rfl (lv_at hl 1 rfl) ?_
      refine lv_bipush (v := 10) hx hb dX1_pourOut_13 (by decide) ?_
      refine lv_imul hx hb dX1_pourOut_15 ?_
      refine lv_iload_n hx hb dX1_pourOut_16 rfl (lv_at hl 2 rfl) ?_
      refine lv_iadd hx hb dX1_pourOut_17 ?_
      refine lv_iconst (v := 0) hx hb dX1_pourOut_18 (by decide) ?_
      obtain ⟨M105, q106, hf⟩ := ob hf
      refine astC X hw (kr_X1_3 h0) q106 dX1_pourOut_19 (fun H locs hw => ?_)
      obtain ⟨z107, ez107⟩ : ∃ y : Int32, y = x2 + 1 := ⟨_, rfl⟩
      replace hf := nmb hf ez107
      refine lv_iinc (v := z107) (lv' := [(2, .int z107), (0, .ref (b + o0)), (1, .int x1)]) hx hb dX1_pourOut_20 hl (k := 2) rfl (by rw [ez107]; rfl) (by decide) rfl (fun ls hl => ?_)
      refine lv_goto (tgt := 2) hx hb dX1_pourOut_23 (by decide) ?_
      exact ih x1 z107 M105 hf H locs ls hw (lv_sub hl [1, 2, 0] rfl)
set_option maxHeartbeats 4000000 in
set_option maxRecDepth 100000 in
theorem ctX1_pourOut (l : Launch) (E : EE) (b : Nat) {TC : Int64} {MM : Mem} {TM : Int64} {o0 : Nat} {x1 : Int32} {M : Mem} {res : Mem} (h0 : (kd o0).1 = 3) (hf : gX1_pourOut o0 x1 M = some res) : MetV l E b yX1_pourOut (.code yX1_pourOut cX1_pourOut 3 none) rmX1_pourOut [.ref (b + o0), .int x1] M TC MM TM res TC MM TM := by
  refine Met.ofW (cc := cX1_pourOut) (maxL := 3) (ret := none) (by decide) rfl ?_
  intro p e s m args below meth c s₁ B hml hv
  obtain ⟨rfl, hP, hK⟩ := hv
  have hx := B.exec
  have hb := B.bytes
  have X : CX E p s m _ c cX1_pourOut 3 RX1 := ⟨hx, hb, hml, findClass_of_methodNamed B.named, fun w h => atoms_spec (ws := _ :: wt) B.pre w (List.mem_cons_of_mem _ h), hK⟩
  have hr := B.returns
  have hlk := B.notSynchronized
  have hw : WW E b M TC MM TM s s.heap [] := ⟨hP, va_S.rf⟩
  have hl := lv_entry ([.ref (b + o0), .int x1]) (n := 3) (Nat.le_of_ble_eq_true rfl)
  rw [lg_entry_eq]
  generalize (lg_sl ([.ref (b + o0), .int x1]) ++ List.replicate (3 - (lg_sl ([.ref (b + o0), .int x1])).length) Slot.unset).toArray = ls at hl ⊢
  have hl : lv_has ls 3 [(0, .ref (b + o0)), (1, .int x1)] := hl
  obtain ⟨H, hH⟩ : ∃ H, H = s.heap := ⟨_, rfl⟩
  obtain ⟨locs, hL⟩ : ∃ L : List Loc, L = [] := ⟨_, rfl⟩
  rw [← hH, ← hL] at hw
  suffices hg : W p l e rmX1_pourOut s m _ below meth c H locs 0 0 (MQ below (va_Qv (fun (_ : Unit) => True) (fun _ t => PW E b res TC MM TM t) (AA b)) _ s 0 0 (AA b)) (F0 m 0 ls []) by rw [hH, hL] at hg; exact hg
  clear hH hL
  rw [gX1_pourOut] at hf
  refine lv_iconst (v := 0) hx hb dX1_pourOut_0 (by decide) ?_
  refine lv_istore_n (lv' := [(2, .int 0), (0, .ref (b + o0)), (1, .int x1)]) hx hb dX1_pourOut_1 rfl hl (by decide) rfl (fun ls hl => ?_)
  exact tX1_pourOut_2 X hr hlk h0 FU x1 0 M hf H locs ls hw (lv_sub hl [1, 2, 0] rfl)

abbrev rmX1_layersOf : Room := { frames := 1, cells := 0, slots := 0, locals := 22 }
theorem hd_X1_layersOf : Hd yX1_layersOf RX1 2 := by decide +kernel
def gX1_layersOf_30 (o0 : Nat) (k5 : Int32 → Int32 → Int32 → Int32 → Mem → Option (Int32)) (x1 : Int32) (x2 : Int32) (x3 : Int32) (x4 : Int32) (M : Mem) : Option (Int32) := (some (x4 + 1)).bind fun z114 => k5 x1 x2 x3 z114 M
def gX1_layersOf_5 (o0 : Nat)  : Nat → Int32 → Int32 → Int32 → Int32 → Mem → Option (Int32)
  | 0, _, _, _, _, _ => none
  | n + 1, x1, x2, x3, x4, M => (ldA 5 (M (o0 + 1)) x1).bind fun v108 => if v108 ≤ x4 then (some (x3)) else ((gX1_layerAt o0 x1 x4 M).bind fun u111 => if u111 = x2 then ((some (x3 + 1)).bind fun z115 => gX1_layersOf_30 o0 (gX1_layersOf_5 o0 n) x1 x2 z115 x4 M) else (gX1_layersOf_30 o0 (gX1_layersOf_5 o0 n) x1 x2 x3 x4 M))
def gX1_layersOf (o0 : Nat) (x1 : Int32) (x2 : Int32) (M : Mem) : Option (Int32) := gX1_layersOf_5 o0 FU x1 x2 0 0 M
set_option maxHeartbeats 4000000 in
set_option maxRecDepth 100000 in
theorem tX1_layersOf_30 {p : Program} {l : Launch} {e : Env} {s : State} {m : MethodId} {args : Array Value} {below : List Frame} {meth : Method} {c : Code} {E : EE} {b : Nat} {TC : Int64} {MM : Mem} {TM : Int64} {res : Int32} (X : CX E p s m args c cX1_layersOf 5 RX1) (hr : meth.sig.returnType = (some .int)) (hlk : meth.locks = false) {o0 : Nat} (h0 : (kd o0).1 = 3) {k5 : Int32 → Int32 → Int32 → Int32 → Mem → Option (Int32)} (hk5 : ∀ (x1 : Int32) (x2 : Int32) (x3 : Int32) (x4 : Int32) (M : Mem), k5 x1 x2 x3 x4 M = some res → ∀ (H : Heap) (locs : List Loc) (ls : Array Slot), WW E b M TC MM TM s H locs → lv_has ls 5 [(0, .ref (b + o0)), (1, .int x1), (2, .int x2), (3, .int x3), (4, .int x4)] → W p l e rmX1_layersOf s m args below meth c H locs 0 0 (MQ below (va_Qi (fun x (_ : Unit) => x = res) (fun _ t => PW E b M TC MM TM t) (AA b)) args s 0 0 (AA b)) (F0 m 5 ls [])) : ∀ (x1 : Int32) (x2 : Int32) (x3 : Int32) (x4 : Int32) (M : Mem), gX1_layersOf_30 o0 k5 x1 x2 x3 x4 M = some res → ∀ (H : Heap) (locs : List Loc) (ls : Array Slot), WW E b M TC MM TM s H locs → lv_has ls 5 [(0, .ref (b + o0)), (1, .int x1), (2, .int x2), (3, .int x3), (4, .int x4)] → W p l e rmX1_layersOf s m args below meth c H locs 0 0 (MQ below (va_Qi (fun x (_ : Unit) => x = res) (fun _ t => PW E b M TC MM TM t) (AA b)) args s 0 0 (AA b)) (F0 m 30 ls []) := by
  have hx := X.1
  have hb := X.2.1
  intro x1 x2 x3 x4 M hf H locs ls hw hl
  rw [gX1_layersOf_30] at hf
  obtain ⟨z114, ez114⟩ : ∃ y : Int32, y = x4 + 1 := ⟨_, rfl⟩
  replace hf := nmb hf ez114
  refine lv_iinc (v := z114) (lv' := [(4, .int z114), (0, .ref (b + o0)), (1, .int x1), (2, .int x2), (3, .int x3)]) hx hb dX1_layersOf_30 hl (k := 4) rfl (by rw [ez114]; rfl) (by decide) rfl (fun ls hl => ?_)
  refine lv_goto (tgt := 5) hx hb dX1_layersOf_33 (by decide) ?_
  exact hk5 x1 x2 x3 z114 M hf H locs ls hw (lv_sub hl [1, 2, 3, 4, 0] rfl)
set_option maxHeartbeats 4000000 in
set_option maxRecDepth 100000 in
theorem tX1_layersOf_5 {p : Program} {l : Launch} {e : Env} {s : State} {m : MethodId} {args : Array Value} {below : List Frame} {meth : Method} {c : Code} {E : EE} {b : Nat} {TC : Int64} {MM : Mem} {TM : Int64} {res : Int32} (X : CX E p s m args c cX1_layersOf 5 RX1) (hr : meth.sig.returnType = (some .int)) (hlk : meth.locks = false) {o0 : Nat} (h0 : (kd o0).1 = 3)  : ∀ (n : Nat) (x1 : Int32) (x2 : Int32) (x3 : Int32) (x4 : Int32) (M : Mem), gX1_layersOf_5 o0 n x1 x2 x3 x4 M = some res → ∀ (H : Heap) (locs : List Loc) (ls : Array Slot), WW E b M TC MM TM s H locs → lv_has ls 5 [(0, .ref (b + o0)), (1, .int x1), (2, .int x2), (3, .int x3), (4, .int x4)] → W p l e rmX1_layersOf s m args below meth c H locs 0 0 (MQ below (va_Qi (fun x (_ : Unit) => x = res) (fun _ t => PW E b M TC MM TM t) (AA b)) args s 0 0 (AA b)) (F0 m 5 ls []) := by
  have hx := X.1
  have hb := X.2.1
  intro n
  induction n with
  | zero =>
    intro x1 x2 x3 x4 M hf
    cases (show (none : Option (Int32)) = some res from hf)
  | succ n ih =>
    intro x1 x2 x3 x4 M hf H locs ls hw hl
    rw [gX1_layersOf_5] at hf
    refine lv_iload hx hb dX1_layersOf_5 (lv_at hl 4 rfl) ?_
    refine lv_aload_n hx hb dX1_layersOf_7 rfl (lv_at hl 0 rfl) ?_
    refine gt_X1 X hw 0 h0 rfl (by decide) mw_178 rfl dX1_layersOf_8 ?_
    refine lv_iload_n hx hb dX1_layersOf_11 rfl (lv_at hl 1 rfl) ?_
    obtain ⟨v108, q109, hf⟩ := ob hf
    refine aldC X hw (kr_X1_0 h0) q109 dX1_layersOf_12 ?_
    refine lv_icmp_ge (tgt := 36) hx hb dX1_layersOf_13 (by decide) (fun c110 => ?_) (fun c110 => ?_)
    · replace hf := (if_pos c110).symm.trans hf
      refine lv_iload_n hx hb dX1_layersOf_36 rfl (lv_at hl 3 rfl) ?_
      replace hf := Option.some.inj hf
      subst hf
      exact eI X hw hr hlk dX1_layersOf_37
    · replace hf := (if_neg c110).symm.trans hf
      refine lv_aload_n hx hb dX1_layersOf_16 rfl (lv_at hl 0 rfl) ?_
      refine lv_iload_n hx hb dX1_layersOf_17 rfl (lv_at hl 1 rfl) ?_
      refine lv_iload hx hb dX1_layersOf_18 (lv_at hl 4 rfl) ?_
      obtain ⟨u111, q112, hf⟩ := ob hf
      refine cVi (As := [.int x1, .int x4]) X hw (ctX1_layerAt l E b h0 q112) ⟨mw_412, mw_413, mw_414, mw_57, mw_415⟩ hd_X1_layerAt ⟨Nat.le_of_ble_eq_true rfl, Nat.le_of_ble_eq_true rfl, rfl, rfl⟩ (kdk h0 (by decide)) (ce_X1 E _ _ _ _ h0) (show vwCl[1]? = some (RX1, TX1, 6) from rfl) rfl hl.1 rfl (Nat.le_of_ble_eq_true rfl) dX1_layersOf_20 (fun H locs hw => ?_)
      refine lv_iload_n hx hb dX1_layersOf_23 rfl (lv_at hl 2 rfl) ?_
      refine lv_icmp_ne (tgt := 30) hx hb dX1_layersOf_24 (by decide) (fun c113 => ?_) (fun c113 => ?_)
      · replace hf := (if_neg c113).symm.trans hf
        exact tX1_layersOf_30 X hr hlk h0 ih x1 x2 x3 x4 M hf H locs ls hw (lv_sub hl [0, 1, 2, 3, 4] rfl)
      · replace hf := (if_pos c113).symm.trans hf
        obtain ⟨z115, ez115⟩ : ∃ y : Int32, y = x3 + 1 := ⟨_, rfl⟩
        replace hf := nmb hf ez115
        refine lv_iinc (v := z115) (lv' := [(3, .int z115), (0, .ref (b + o0)), (1, .int x1), (2, .int x2), (4, .int x4)]) hx hb dX1_layersOf_27 hl (k := 3) rfl (by rw [ez115]; rfl) (by decide) rfl (fun ls hl => ?_)
        exact tX1_layersOf_30 X hr hlk h0 ih x1 x2 z115 x4 M hf H locs ls hw (lv_sub hl [1, 2, 3, 0, 4] rfl)
set_option maxHeartbeats 4000000 in
set_option maxRecDepth 100000 in
theorem ctX1_layersOf (l : Launch) (E : EE) (b : Nat) {TC : Int64} {MM : Mem} {TM : Int64} {o0 : Nat} {x1 : Int32} {x2 : Int32} {M : Mem} {res : Int32} (h0 : (kd o0).1 = 3) (hf : gX1_layersOf o0 x1 x2 M = some res) : MetI l E b yX1_layersOf (.code yX1_layersOf cX1_layersOf 5 (some .int)) rmX1_layersOf [.ref (b + o0), .int x1, .int x2] M TC MM TM res M TC MM TM := by
  refine Met.ofW (cc := cX1_layersOf) (maxL := 5) (ret := (some .int)) (by decide) rfl ?_
  intro p e s m args below meth c s₁ B hml hv
  obtain ⟨rfl, hP, hK⟩ := hv
  have hx := B.exec
  have hb := B.bytes
  have X : CX E p s m _ c cX1_layersOf 5 RX1 := ⟨hx, hb, hml, findClass_of_methodNamed B.named, fun w h => atoms_spec (ws := _ :: wt) B.pre w (List.mem_cons_of_mem _ h), hK⟩
  have hr := B.returns
  have hlk := B.notSynchronized
  have hw : WW E b M TC MM TM s s.heap [] := ⟨hP, va_S.rf⟩
  have hl := lv_entry ([.ref (b + o0), .int x1, .int x2]) (n := 5) (Nat.le_of_ble_eq_true rfl)
  rw [lg_entry_eq]
  generalize (lg_sl ([.ref (b + o0), .int x1, .int x2]) ++ List.replicate (5 - (lg_sl ([.ref (b + o0), .int x1, .int x2])).length) Slot.unset).toArray = ls at hl ⊢
  have hl : lv_has ls 5 [(0, .ref (b + o0)), (1, .int x1), (2, .int x2)] := hl
  obtain ⟨H, hH⟩ : ∃ H, H = s.heap := ⟨_, rfl⟩
  obtain ⟨locs, hL⟩ : ∃ L : List Loc, L = [] := ⟨_, rfl⟩
  rw [← hH, ← hL] at hw
  suffices hg : W p l e rmX1_layersOf s m _ below meth c H locs 0 0 (MQ below (va_Qi (fun x (_ : Unit) => x = res) (fun _ t => PW E b M TC MM TM t) (AA b)) _ s 0 0 (AA b)) (F0 m 0 ls []) by rw [hH, hL] at hg; exact hg
  clear hH hL
  rw [gX1_layersOf] at hf
  refine lv_iconst (v := 0) hx hb dX1_layersOf_0 (by decide) ?_
  refine lv_istore_n (lv' := [(3, .int 0), (0, .ref (b + o0)), (1, .int x1), (2, .int x2)]) hx hb dX1_layersOf_1 rfl hl (by decide) rfl (fun ls hl => ?_)
  refine lv_iconst (v := 0) hx hb dX1_layersOf_2 (by decide) ?_
  refine lv_istore (lv' := [(4, .int 0), (3, .int 0), (0, .ref (b + o0)), (1, .int x1), (2, .int x2)]) hx hb dX1_layersOf_3 hl (by decide) rfl (fun ls hl => ?_)
  exact tX1_layersOf_5 X hr hlk h0 FU x1 x2 0 0 M hf H locs ls hw (lv_sub hl [2, 3, 4, 1, 0] rfl)
