abbrev rmX7_wig : Room := { frames := 2, cells := 0, slots := 0, locals := 45 }
theorem hd_X7_wig : Hd yX7_wig RX7 1 := by decide +kernel
def gX7_wig_103  (k58 : Int32 → Int32 → Int32 → Int32 → Mem → Option (Int32 × Mem)) (x1 : Int32) (x2 : Int32) (x3 : Int32) (x4 : Int32) (M : Mem) : Option (Int32 × Mem) := (some (x4 + 1)).bind fun z9 => k58 x1 x2 x3 z9 M
def gX7_wig_58   : Nat → Int32 → Int32 → Int32 → Int32 → Mem → Option (Int32 × Mem)
  | 0, _, _, _, _, _ => none
  | n + 1, x1, x2, x3, x4, M => if (1 <<< ((M 191 3) &&& 31)) ≤ x4 then (some (x2, M)) else ((gJ6_bitCount_0f7a4 x4).bind fun u6 => if x3 ≤ u6 then (gX7_wig_103 (gX7_wig_58 n) x1 x2 x3 x4 M) else ((gX7_thoughtsOf x4 M).bind fun u10 => if (u10 &&& x1) = x1 then (gX7_wig_103 (gX7_wig_58 n) x1 x4 u6 x4 M) else (gX7_wig_103 (gX7_wig_58 n) x1 x2 x3 x4 M)))
def gX7_wig_15   : Nat → Int32 → Int32 → Mem → Option (Int32 × Mem)
  | 0, _, _, _ => none
  | n + 1, x1, x2, M => if (M 191 3) ≤ x2 then (gX7_wig_58 FU x1 ((-9)) 6 0 M) else ((gX1_thoughtsIn 9 x2 M).bind fun u13 => (stA 20 M 196 x2 u13).bind fun M15 => (some (x2 + 1)).bind fun z17 => (gX7_wig_15 n) x1 z17 M15)
def gX7_wig (x1 : Int32) (M : Mem) : Option (Int32 × Mem) := (gX7_within x1 0 1023).bind fun u1 => if u1 = 0 then (some ((-1), M)) else (gX7_wig_15 FU x1 0 M)
set_option maxHeartbeats 4000000 in
set_option maxRecDepth 100000 in
theorem tX7_wig_103 {p : Program} {l : Launch} {e : Env} {s : State} {m : MethodId} {args : Array Value} {below : List Frame} {meth : Method} {c : Code} {E : EE} {b : Nat} {TC : Int64} {MM : Mem} {TM : Int64} {res : Int32 × Mem} (X : CX E p s m args c cX7_wig 6 RX7) (hr : meth.sig.returnType = (some .int)) (hlk : meth.locks = false)   {k58 : Int32 → Int32 → Int32 → Int32 → Mem → Option (Int32 × Mem)} (hk58 : ∀ (x1 : Int32) (x2 : Int32) (x3 : Int32) (x4 : Int32) (M : Mem), k58 x1 x2 x3 x4 M = some res → ∀ (H : Heap) (locs : List Loc) (ls : Array Slot), WW E b M TC MM TM s H locs → lv_has ls 6 [(0, .ref (b + 0)), (1, .int x1), (2, .int x2), (3, .int x3), (4, .int x4)] → W p l e rmX7_wig s m args below meth c H locs 0 0 (MQ below (va_Qi (fun x (_ : Unit) => x = res.1) (fun _ t => PW E b res.2 TC MM TM t) (AA b)) args s 0 0 (AA b)) (F0 m 58 ls [])) : ∀ (x1 : Int32) (x2 : Int32) (x3 : Int32) (x4 : Int32) (M : Mem), gX7_wig_103 k58 x1 x2 x3 x4 M = some res → ∀ (H : Heap) (locs : List Loc) (ls : Array Slot), WW E b M TC MM TM s H locs → lv_has ls 6 [(0, .ref (b + 0)), (1, .int x1), (2, .int x2), (3, .int x3), (4, .int x4)] → W p l e rmX7_wig s m args below meth c H locs 0 0 (MQ below (va_Qi (fun x (_ : Unit) => x = res.1) (fun _ t => PW E b res.2 TC MM TM t) (AA b)) args s 0 0 (AA b)) (F0 m 103 ls []) := by
  have hx := X.1
  have hb := X.2.1
  intro x1 x2 x3 x4 M hf H locs ls hw hl
  rw [gX7_wig_103] at hf
  obtain ⟨z9, ez9⟩ : ∃ y : Int32, y = x4 + 1 := ⟨_, rfl⟩
  replace hf := nmb hf ez9
  refine lv_iinc (v := z9) (lv' := [(4, .int z9), (0, .ref (b + 0)), (1, .int x1), (2, .int x2), (3, .int x3)]) hx hb dX7_wig_103 hl (k := 4) rfl (by rw [ez9]; rfl) (by decide) rfl (fun ls hl => ?_)
  refine lv_goto (tgt := 58) hx hb dX7_wig_106 (by decide) ?_
  exact hk58 x1 x2 x3 z9 M hf H locs ls hw (lv_sub hl [1, 2, 3, 4, 0] rfl)
set_option maxHeartbeats 4000000 in
set_option maxRecDepth 100000 in
theorem tX7_wig_58 {p : Program} {l : Launch} {e : Env} {s : State} {m : MethodId} {args : Array Value} {below : List Frame} {meth : Method} {c : Code} {E : EE} {b : Nat} {TC : Int64} {MM : Mem} {TM : Int64} {res : Int32 × Mem} (X : CX E p s m args c cX7_wig 6 RX7) (hr : meth.sig.returnType = (some .int)) (hlk : meth.locks = false)    : ∀ (n : Nat) (x1 : Int32) (x2 : Int32) (x3 : Int32) (x4 : Int32) (M : Mem), gX7_wig_58 n x1 x2 x3 x4 M = some res → ∀ (H : Heap) (locs : List Loc) (ls : Array Slot), WW E b M TC MM TM s H locs → lv_has ls 6 [(0, .ref (b + 0)), (1, .int x1), (2, .int x2), (3, .int x3), (4, .int x4)] → W p l e rmX7_wig s m args below meth c H locs 0 0 (MQ below (va_Qi (fun x (_ : Unit) => x = res.1) (fun _ t => PW E b res.2 TC MM TM t) (AA b)) args s 0 0 (AA b)) (F0 m 58 ls []) := by
  have hx := X.1
  have hb := X.2.1
  intro n
  induction n with
  | zero =>
    intro x1 x2 x3 x4 M hf
    cases (show (none : Option (Int32 × Mem)) = some res from hf)
  | succ n ih =>
    intro x1 x2 x3 x4 M hf H locs ls hw hl
    rw [gX7_wig_58] at hf
    refine lv_iload hx hb dX7_wig_58 (lv_at hl 4 rfl) ?_
    refine lv_iconst (v := 1) hx hb dX7_wig_60 (by decide) ?_
    refine lv_aload_n hx hb dX7_wig_61 rfl (lv_at hl 0 rfl) ?_
    refine gt_X7 X hw 7 kk_0 rfl (by decide) mw_285 rfl dX7_wig_62 ?_
    refine gt_X6 X hw 3 kk_191 rfl (by decide) mw_114 rfl dX7_wig_65 ?_
    refine lv_ishl hx hb dX7_wig_68 ?_
    refine lv_icmp_ge (tgt := 109) hx hb dX7_wig_69 (by decide) (fun c5 => ?_) (fun c5 => ?_)
    · replace hf := (if_pos c5).symm.trans hf
      refine lv_iload_n hx hb dX7_wig_109 rfl (lv_at hl 2 rfl) ?_
      replace hf := Option.some.inj hf
      subst hf
      exact eI X hw hr hlk dX7_wig_110
    · replace hf := (if_neg c5).symm.trans hf
      refine lv_iload hx hb dX7_wig_72 (lv_at hl 4 rfl) ?_
      obtain ⟨u6, q7, hf⟩ := ob hf
      refine cSi (As := [.int x4]) X hw (ctJ6_bitCount_0f7a4 l E b  q7) ⟨mw_589, mw_590, mw_64, mw_591⟩ hd_J6_bitCount_0f7a4 ⟨Nat.le_of_ble_eq_true rfl, Nat.le_of_ble_eq_true rfl, rfl, rfl⟩ rfl hl.1 rfl (Nat.le_of_ble_eq_true rfl) dX7_wig_74 (fun H locs hw => ?_)
      refine lv_istore (lv' := [(5, .int u6), (0, .ref (b + 0)), (1, .int x1), (2, .int x2), (3, .int x3), (4, .int x4)]) hx hb dX7_wig_77 hl (by decide) rfl (fun ls hl => ?_)
      refine lv_iload hx hb dX7_wig_79 (lv_at hl 0 rfl) ?_
      refine lv_iload_n hx hb dX7_wig_81 rfl (lv_at hl 4 rfl) ?_
      refine lv_icmp_ge (tgt := 103) hx hb dX7_wig_82 (by decide) (fun c8 => ?_) (fun c8 => ?_)
      · replace hf := (if_pos c8).symm.trans hf
        exact tX7_wig_103 X hr hlk ih x1 x2 x3 x4 M hf H locs ls hw (lv_sub hl [1, 2, 3, 4, 5] rfl)
      · replace hf := (if_neg c8).symm.trans hf
        refine lv_aload_n hx hb dX7_wig_85 rfl (lv_at hl 1 rfl) ?_
        refine lv_iload hx hb dX7_wig_86 (lv_at hl 5 rfl) ?_
        obtain ⟨u10, q11, hf⟩ := ob hf
        refine cVi (As := [.int x4]) X hw (ctX7_thoughtsOf l E b  q11) ⟨mw_595, mw_597, mw_19, mw_52, mw_598⟩ hd_X7_thoughtsOf ⟨Nat.le_of_ble_eq_true rfl, Nat.le_of_ble_eq_true rfl, rfl, rfl⟩ (kdk kk_0 (by decide)) (ce_X7 E _ _ _ _ kk_0) (show vwCl[7]? = some (RX7, TX7, 11) from rfl) rfl hl.1 rfl (Nat.le_of_ble_eq_true rfl) dX7_wig_88 (fun H locs hw => ?_)
        refine lv_iload_n hx hb dX7_wig_91 rfl (lv_at hl 2 rfl) ?_
        refine lv_iand hx hb dX7_wig_92 ?_
        refine lv_iload_n hx hb dX7_wig_93 rfl (lv_at hl 2 rfl) ?_
        refine lv_icmp_ne (tgt := 103) hx hb dX7_wig_94 (by decide) (fun c12 => ?_) (fun c12 => ?_)
        · replace hf := (if_neg c12).symm.trans hf
          exact tX7_wig_103 X hr hlk ih x1 x2 x3 x4 M hf H locs ls hw (lv_sub hl [1, 2, 3, 4, 5] rfl)
        · replace hf := (if_pos c12).symm.trans hf
          refine lv_iload hx hb dX7_wig_97 (lv_at hl 5 rfl) ?_
          refine lv_istore_n (lv' := [(2, .int x4), (5, .int u6), (0, .ref (b + 0)), (1, .int x1), (3, .int x3), (4, .int x4)]) hx hb dX7_wig_99 rfl hl (by decide) rfl (fun ls hl => ?_)
          refine lv_iload hx hb dX7_wig_100 (lv_at hl 1 rfl) ?_
          refine lv_istore_n (lv' := [(3, .int u6), (2, .int x4), (5, .int u6), (0, .ref (b + 0)), (1, .int x1), (4, .int x4)]) hx hb dX7_wig_102 rfl hl (by decide) rfl (fun ls hl => ?_)
          exact tX7_wig_103 X hr hlk ih x1 x4 u6 x4 M hf H locs ls hw (lv_sub hl [3, 4, 1, 0, 5] rfl)
set_option maxHeartbeats 4000000 in
set_option maxRecDepth 100000 in
theorem tX7_wig_15 {p : Program} {l : Launch} {e : Env} {s : State} {m : MethodId} {args : Array Value} {below : List Frame} {meth : Method} {c : Code} {E : EE} {b : Nat} {TC : Int64} {MM : Mem} {TM : Int64} {res : Int32 × Mem} (X : CX E p s m args c cX7_wig 6 RX7) (hr : meth.sig.returnType = (some .int)) (hlk : meth.locks = false)    : ∀ (n : Nat) (x1 : Int32) (x2 : Int32) (M : Mem), gX7_wig_15 n x1 x2 M = some res → ∀ (H : Heap) (locs : List Loc) (ls : Array Slot), WW E b M TC MM TM s H locs → lv_has ls 6 [(0, .ref (b + 0)), (1, .int x1), (2, .int x2)] → W p l e rmX7_wig s m args below meth c H locs 0 0 (MQ below (va_Qi (fun x (_ : Unit) => x = res.1) (fun _ t => PW E b res.2 TC MM TM t) (AA b)) args s 0 0 (AA b)) (F0 m 15 ls []) := by
  have hx := X.1
  have hb := X.2.1
  intro n
  induction n with
  | zero =>
    intro x1 x2 M hf
    cases (show (none : Option (Int32 × Mem)) = some res from hf)
  | succ n ih =>
    intro x1 x2 M hf H locs ls hw hl
    rw [gX7_wig_15] at hf
    refine lv_iload_n hx hb dX7_wig_15 rfl (lv_at hl 2 rfl) ?_
    refine lv_aload_n hx hb dX7_wig_16 rfl (lv_at hl 0 rfl) ?_
    refine gt_X7 X hw 7 kk_0 rfl (by decide) mw_285 rfl dX7_wig_17 ?_
    refine gt_X6 X hw 3 kk_191 rfl (by decide) mw_114 rfl dX7_wig_20 ?_
    refine lv_icmp_ge (tgt := 49) hx hb dX7_wig_23 (by decide) (fun c4 => ?_) (fun c4 => ?_)
    · replace hf := (if_pos c4).symm.trans hf
      refine lv_bipush (v := (-9)) hx hb dX7_wig_49 (by decide) ?_
      refine lv_istore_n (lv' := [(2, .int ((-9))), (0, .ref (b + 0)), (1, .int x1)]) hx hb dX7_wig_51 rfl hl (by decide) rfl (fun ls hl => ?_)
      refine lv_bipush (v := 6) hx hb dX7_wig_52 (by decide) ?_
      refine lv_istore_n (lv' := [(3, .int 6), (2, .int ((-9))), (0, .ref (b + 0)), (1, .int x1)]) hx hb dX7_wig_54 rfl hl (by decide) rfl (fun ls hl => ?_)
      refine lv_iconst (v := 0) hx hb dX7_wig_55 (by decide) ?_
      refine lv_istore (lv' := [(4, .int 0), (3, .int 6), (2, .int ((-9))), (0, .ref (b + 0)), (1, .int x1)]) hx hb dX7_wig_56 hl (by decide) rfl (fun ls hl => ?_)
      exact tX7_wig_58 X hr hlk FU x1 ((-9)) 6 0 M hf H locs ls hw (lv_sub hl [3, 4, 2, 1, 0] rfl)
    · replace hf := (if_neg c4).symm.trans hf
      refine lv_aload_n hx hb dX7_wig_26 rfl (lv_at hl 0 rfl) ?_
      refine gt_X7 X hw 9 kk_0 rfl (by decide) mw_287 rfl dX7_wig_27 ?_
      refine lv_iload_n hx hb dX7_wig_30 rfl (lv_at hl 2 rfl) ?_
      refine lv_aload_n hx hb dX7_wig_31 rfl (lv_at hl 0 rfl) ?_
      refine gt_X7 X hw 2 kk_0 rfl (by decide) mw_280 rfl dX7_wig_32 ?_
      refine gt_X5 X hw 0 kk_8 rfl (by decide) mw_205 rfl dX7_wig_35 ?_
      refine lv_iload_n hx hb dX7_wig_38 rfl (lv_at hl 2 rfl) ?_
      obtain ⟨u13, q14, hf⟩ := ob hf
      refine cVi (As := [.int x2]) X hw (ctX1_thoughtsIn l E b kk_9 q14) ⟨mw_585, mw_586, mw_587, mw_57, mw_588⟩ hd_X1_thoughtsIn ⟨Nat.le_of_ble_eq_true rfl, Nat.le_of_ble_eq_true rfl, rfl, rfl⟩ (kdk kk_9 (by decide)) (ce_X1 E _ _ _ _ kk_9) (show vwCl[1]? = some (RX1, TX1, 6) from rfl) rfl hl.1 rfl (Nat.le_of_ble_eq_true rfl) dX7_wig_39 (fun H locs hw => ?_)
      obtain ⟨M15, q16, hf⟩ := ob hf
      refine astC X hw kdv_196 q16 dX7_wig_42 (fun H locs hw => ?_)
      obtain ⟨z17, ez17⟩ : ∃ y : Int32, y = x2 + 1 := ⟨_, rfl⟩
      replace hf := nmb hf ez17
      refine lv_iinc (v := z17) (lv' := [(2, .int z17), (0, .ref (b + 0)), (1, .int x1)]) hx hb dX7_wig_43 hl (k := 2) rfl (by rw [ez17]; rfl) (by decide) rfl (fun ls hl => ?_)
      refine lv_goto (tgt := 15) hx hb dX7_wig_46 (by decide) ?_
      exact ih x1 z17 M15 hf H locs ls hw (lv_sub hl [1, 2, 0] rfl)
set_option maxHeartbeats 4000000 in
set_option maxRecDepth 100000 in
theorem ctX7_wig (l : Launch) (E : EE) (b : Nat) {TC : Int64} {MM : Mem} {TM : Int64} {x1 : Int32} {M : Mem} {res : Int32 × Mem}  (hf : gX7_wig x1 M = some res) : MetI l E b yX7_wig (.code yX7_wig cX7_wig 6 (some .int)) rmX7_wig [.ref (b + 0), .int x1] M TC MM TM res.1 res.2 TC MM TM := by
  refine Met.ofW (cc := cX7_wig) (maxL := 6) (ret := (some .int)) (by decide) rfl ?_
  intro p e s m args below meth c s₁ B hml hv
  obtain ⟨rfl, hP, hK⟩ := hv
  have hx := B.exec
  have hb := B.bytes
  have X : CX E p s m _ c cX7_wig 6 RX7 := ⟨hx, hb, hml, findClass_of_methodNamed B.named, fun w h => atoms_spec (ws := _ :: wt) B.pre w (List.mem_cons_of_mem _ h), hK⟩
  have hr := B.returns
  have hlk := B.notSynchronized
  have hw : WW E b M TC MM TM s s.heap [] := ⟨hP, va_S.rf⟩
  have hl := lv_entry ([.ref (b + 0), .int x1]) (n := 6) (Nat.le_of_ble_eq_true rfl)
  rw [lg_entry_eq]
  generalize (lg_sl ([.ref (b + 0), .int x1]) ++ List.replicate (6 - (lg_sl ([.ref (b + 0), .int x1])).length) Slot.unset).toArray = ls at hl ⊢
  have hl : lv_has ls 6 [(0, .ref (b + 0)), (1, .int x1)] := hl
  obtain ⟨H, hH⟩ : ∃ H, H = s.heap := ⟨_, rfl⟩
  obtain ⟨locs, hL⟩ : ∃ L : List Loc, L = [] := ⟨_, rfl⟩
  rw [← hH, ← hL] at hw
  suffices hg : W p l e rmX7_wig s m _ below meth c H locs 0 0 (MQ below (va_Qi (fun x (_ : Unit) => x = res.1) (fun _ t => PW E b res.2 TC MM TM t) (AA b)) _ s 0 0 (AA b)) (F0 m 0 ls []) by rw [hH, hL] at hg; exact hg
  clear hH hL
  rw [gX7_wig] at hf
  refine lv_iload_n hx hb dX7_wig_0 rfl (lv_at hl 1 rfl) ?_
  refine lv_iconst (v := 0) hx hb dX7_wig_1 (by decide) ?_
  refine lv_sipush (v := 1023) hx hb dX7_wig_2 (by decide) ?_
  obtain ⟨u1, q2, hf⟩ := ob hf
  refine cSi (As := [.int x1, .int 0, .int 1023]) X hw (ctX7_within l E b  q2) ⟨mw_316, mw_317, mw_52, mw_318⟩ hd_X7_within ⟨Nat.le_of_ble_eq_true rfl, Nat.le_of_ble_eq_true rfl, rfl, rfl⟩ rfl hl.1 rfl (Nat.le_of_ble_eq_true rfl) dX7_wig_5 (fun H locs hw => ?_)
  refine lv_if_ne (tgt := 13) hx hb dX7_wig_8 (by decide) (fun c3 => ?_) (fun c3 => ?_)
  · replace hf := (if_neg c3).symm.trans hf
    refine lv_iconst (v := 0) hx hb dX7_wig_13 (by decide) ?_
    refine lv_istore_n (lv' := [(2, .int 0), (0, .ref (b + 0)), (1, .int x1)]) hx hb dX7_wig_14 rfl hl (by decide) rfl (fun ls hl => ?_)
    exact tX7_wig_15 X hr hlk FU x1 0 M hf H locs ls hw (lv_sub hl [1, 2, 0] rfl)
  · replace hf := (if_pos c3).symm.trans hf
    refine lv_iconst (v := (-1)) hx hb dX7_wig_11 (by decide) ?_
    replace hf := Option.some.inj hf
    subst hf
    exact eI X hw hr hlk dX7_wig_12

abbrev rmX7_choose : Room := { frames := 0, cells := 0, slots := 0, locals := 0 }
theorem hd_X7_choose : Hd yX7_choose RX7 2 := by decide +kernel
def gX7_choose_4   : Nat → Int32 → Int32 → Int32 → Int32 → Option (Int32)
  | 0, _, _, _, _ => none
  | n + 1, x0, x1, x2, x3 => if x1 < x3 then (some (x2)) else ((nz x3).bind fun _ => (some ((x2 * ((x0 - x1) + x3)) / x3)).bind fun z20 => (some (x3 + 1)).bind fun z21 => (gX7_choose_4 n) x0 x1 z20 z21)
def gX7_choose (x0 : Int32) (x1 : Int32) : Option (Int32) := gX7_choose_4 FU x0 x1 1 1
set_option maxHeartbeats 4000000 in
set_option maxRecDepth 100000 in
theorem tX7_choose_4 {p : Program} {l : Launch} {e : Env} {s : State} {m : MethodId} {args : Array Value} {below : List Frame} {meth : Method} {c : Code} {E : EE} {b : Nat} {MC : Mem} {TC : Int64} {MM : Mem} {TM : Int64} {res : Int32} (X : CX E p s m args c cX7_choose 4 RX7) (hr : meth.sig.returnType = (some .int)) (hlk : meth.locks = false)    : ∀ (n : Nat) (x0 : Int32) (x1 : Int32) (x2 : Int32) (x3 : Int32), gX7_choose_4 n x0 x1 x2 x3 = some res → ∀ (H : Heap) (locs : List Loc) (ls : Array Slot), WW E b MC TC MM TM s H locs → lv_has ls 4 [(0, .int x0), (1, .int x1), (2, .int x2), (3, .int x3)] → W p l e rmX7_choose s m args below meth c H locs 0 0 (MQ below (va_Qi (fun x (_ : Unit) => x = res) (fun _ t => PW E b MC TC MM TM t) (AA b)) args s 0 0 (AA b)) (F0 m 4 ls []) := by
  have hx := X.1
  have hb := X.2.1
  intro n
  induction n with
  | zero =>
    intro x0 x1 x2 x3 hf
    cases (show (none : Option (Int32)) = some res from hf)
  | succ n ih =>
    intro x0 x1 x2 x3 hf H locs ls hw hl
    rw [gX7_choose_4] at hf
    refine lv_iload_n hx hb dX7_choose_4 rfl (lv_at hl 3 rfl) ?_
    refine lv_iload_n hx hb dX7_choose_5 rfl (lv_at hl 1 rfl) ?_
    refine lv_icmp_gt (tgt := 25) hx hb dX7_choose_6 (by decide) (fun c18 => ?_) (fun c18 => ?_)
    · replace hf := (if_pos c18).symm.trans hf
      refine lv_iload_n hx hb dX7_choose_25 rfl (lv_at hl 2 rfl) ?_
      replace hf := Option.some.inj hf
      subst hf
      exact eI X hw hr hlk dX7_choose_26
    · replace hf := (if_neg c18).symm.trans hf
      refine lv_iload_n hx hb dX7_choose_9 rfl (lv_at hl 2 rfl) ?_
      refine lv_iload_n hx hb dX7_choose_10 rfl (lv_at hl 0 rfl) ?_
      refine lv_iload_n hx hb dX7_choose_11 rfl (lv_at hl 1 rfl) ?_
      refine lv_isub hx hb dX7_choose_12 ?_
      refine lv_iload_n hx hb dX7_choose_13 rfl (lv_at hl 3 rfl) ?_
      refine lv_iadd hx hb dX7_choose_14 ?_
      refine lv_imul hx hb dX7_choose_15 ?_
      refine lv_iload_n hx hb dX7_choose_16 rfl (lv_at hl 3 rfl) ?_
      obtain ⟨_, q19, hf⟩ := ob hf
      refine lv_idiv hx hb dX7_choose_17 (nz_ne q19) ?_
      refine lv_topi (fun z20 ez20 => ?_)
      replace hf := nmb hf ez20
      refine lv_istore_n (lv' := [(2, .int z20), (0, .int x0), (1, .int x1), (3, .int x3)]) hx hb dX7_choose_18 rfl hl (by decide) rfl (fun ls hl => ?_)
      obtain ⟨z21, ez21⟩ : ∃ y : Int32, y = x3 + 1 := ⟨_, rfl⟩
      replace hf := nmb hf ez21
      refine lv_iinc (v := z21) (lv' := [(3, .int z21), (2, .int z20), (0, .int x0), (1, .int x1)]) hx hb dX7_choose_19 hl (k := 3) rfl (by rw [ez21]; rfl) (by decide) rfl (fun ls hl => ?_)
      refine lv_goto (tgt := 4) hx hb dX7_choose_22 (by decide) ?_
      exact ih x0 x1 z20 z21 hf H locs ls hw (lv_sub hl [2, 3, 1, 0] rfl)
set_option maxHeartbeats 4000000 in
set_option maxRecDepth 100000 in
theorem ctX7_choose (l : Launch) (E : EE) (b : Nat) {MC : Mem} {TC : Int64} {MM : Mem} {TM : Int64} {x0 : Int32} {x1 : Int32} {res : Int32}  (hf : gX7_choose x0 x1 = some res) : MetI l E b yX7_choose (.code yX7_choose cX7_choose 4 (some .int)) rmX7_choose [.int x0, .int x1] MC TC MM TM res MC TC MM TM := by
  refine Met.ofW (cc := cX7_choose) (maxL := 4) (ret := (some .int)) (by decide) rfl ?_
  intro p e s m args below meth c s₁ B hml hv
  obtain ⟨rfl, hP, hK⟩ := hv
  have hx := B.exec
  have hb := B.bytes
  have X : CX E p s m _ c cX7_choose 4 RX7 := ⟨hx, hb, hml, findClass_of_methodNamed B.named, fun w h => atoms_spec (ws := _ :: wt) B.pre w (List.mem_cons_of_mem _ h), hK⟩
  have hr := B.returns
  have hlk := B.notSynchronized
  have hw : WW E b MC TC MM TM s s.heap [] := ⟨hP, va_S.rf⟩
  have hl := lv_entry ([.int x0, .int x1]) (n := 4) (Nat.le_of_ble_eq_true rfl)
  rw [lg_entry_eq]
  generalize (lg_sl ([.int x0, .int x1]) ++ List.replicate (4 - (lg_sl ([.int x0, .int x1])).length) Slot.unset).toArray = ls at hl ⊢
  have hl : lv_has ls 4 [(0, .int x0), (1, .int x1)] := hl
  obtain ⟨H, hH⟩ : ∃ H, H = s.heap := ⟨_, rfl⟩
  obtain ⟨locs, hL⟩ : ∃ L : List Loc, L = [] := ⟨_, rfl⟩
  rw [← hH, ← hL] at hw
  suffices hg : W p l e rmX7_choose s m _ below meth c H locs 0 0 (MQ below (va_Qi (fun x (_ : Unit) => x = res) (fun _ t => PW E b MC TC MM TM t) (AA b)) _ s 0 0 (AA b)) (F0 m 0 ls []) by rw [hH, hL] at hg; exact hg
  clear hH hL
  rw [gX7_choose] at hf
  refine lv_iconst (v := 1) hx hb dX7_choose_0 (by decide) ?_
  refine lv_istore_n (lv' := [(2, .int 1), (0, .int x0), (1, .int x1)]) hx hb dX7_choose_1 rfl hl (by decide) rfl (fun ls hl => ?_)
  refine lv_iconst (v := 1) hx hb dX7_choose_2 (by decide) ?_
  refine lv_istore_n (lv' := [(3, .int 1), (2, .int 1), (0, .int x0), (1, .int x1)]) hx hb dX7_choose_3 rfl hl (by decide) rfl (fun ls hl => ?_)
  exact tX7_choose_4 X hr hlk FU x0 x1 1 1 hf H locs ls hw (lv_sub hl [2, 3, 1, 0] rfl)

abbrev rmX7_commonDivisor : Room := { frames := 0, cells := 0, slots := 0, locals := 0 }
theorem hd_X7_commonDivisor : Hd yX7_commonDivisor RX7 2 := by decide +kernel
def gX7_commonDivisor_34   (x2 : Int32) : Option (Int32) := some (x2)
def gX7_commonDivisor_7   : Nat → Int32 → Int32 → Int32 → Option (Int32)
  | 0, _, _, _ => none
  | n + 1, x2, x3, x4 => if 64 ≤ x4 then (gX7_commonDivisor_34 x2) else (if x3 = 0 then (gX7_commonDivisor_34 x2) else ((nz x3).bind fun _ => (some (x2 - x2 / x3 * x3)).bind fun z25 => (some (x4 + 1)).bind fun z26 => (gX7_commonDivisor_7 n) x3 z25 z26))
def gX7_commonDivisor (x0 : Int32) (x1 : Int32) : Option (Int32) := gX7_commonDivisor_7 FU x0 x1 0
set_option maxHeartbeats 4000000 in
set_option maxRecDepth 100000 in
theorem tX7_commonDivisor_34 {p : Program} {l : Launch} {e : Env} {s : State} {m : MethodId} {args : Array Value} {below : List Frame} {meth : Method} {c : Code} {E : EE} {b : Nat} {MC : Mem} {TC : Int64} {MM : Mem} {TM : Int64} {res : Int32} (X : CX E p s m args c cX7_commonDivisor 6 RX7) (hr : meth.sig.returnType = (some .int)) (hlk : meth.locks = false)    : ∀ (x2 : Int32), gX7_commonDivisor_34 x2 = some res → ∀ (H : Heap) (locs : List Loc) (ls : Array Slot), WW E b MC TC MM TM s H locs → lv_has ls 6 [(2, .int x2)] → W p l e rmX7_commonDivisor s m args below meth c H locs 0 0 (MQ below (va_Qi (fun x (_ : Unit) => x = res) (fun _ t => PW E b MC TC MM TM t) (AA b)) args s 0 0 (AA b)) (F0 m 34 ls []) := by
  have hx := X.1
  have hb := X.2.1
  intro x2 hf H locs ls hw hl
  rw [gX7_commonDivisor_34] at hf
  refine lv_iload_n hx hb dX7_commonDivisor_34 rfl (lv_at hl 0 rfl) ?_
  replace hf := Option.some.inj hf
  subst hf
  exact eI X hw hr hlk dX7_commonDivisor_35
set_option maxHeartbeats 4000000 in
set_option maxRecDepth 100000 in
theorem tX7_commonDivisor_7 {p : Program} {l : Launch} {e : Env} {s : State} {m : MethodId} {args : Array Value} {below : List Frame} {meth : Method} {c : Code} {E : EE} {b : Nat} {MC : Mem} {TC : Int64} {MM : Mem} {TM : Int64} {res : Int32} (X : CX E p s m args c cX7_commonDivisor 6 RX7) (hr : meth.sig.returnType = (some .int)) (hlk : meth.locks = false)    : ∀ (n : Nat) (x2 : Int32) (x3 : Int32) (x4 : Int32), gX7_commonDivisor_7 n x2 x3 x4 = some res → ∀ (H : Heap) (locs : List Loc) (ls : Array Slot), WW E b MC TC MM TM s H locs → lv_has ls 6 [(2, .int x2), (3, .int x3), (4, .int x4)] → W p l e rmX7_commonDivisor s m args below meth c H locs 0 0 (MQ below (va_Qi (fun x (_ : Unit) => x = res) (fun _ t => PW E b MC TC MM TM t) (AA b)) args s 0 0 (AA b)) (F0 m 7 ls []) := by
  have hx := X.1
  have hb := X.2.1
  intro n
  induction n with
  | zero =>
    intro x2 x3 x4 hf
    cases (show (none : Option (Int32)) = some res from hf)
  | succ n ih =>
    intro x2 x3 x4 hf H locs ls hw hl
    rw [gX7_commonDivisor_7] at hf
    refine lv_iload hx hb dX7_commonDivisor_7 (lv_at hl 2 rfl) ?_
    refine lv_bipush (v := 64) hx hb dX7_commonDivisor_9 (by decide) ?_
    refine lv_icmp_ge (tgt := 34) hx hb dX7_commonDivisor_11 (by decide) (fun c22 => ?_) (fun c22 => ?_)
    · replace hf := (if_pos c22).symm.trans hf
      exact tX7_commonDivisor_34 X hr hlk x2 hf H locs ls hw (lv_sub hl [0] rfl)
    · replace hf := (if_neg c22).symm.trans hf
      refine lv_iload_n hx hb dX7_commonDivisor_14 rfl (lv_at hl 1 rfl) ?_
      refine lv_if_eq (tgt := 34) hx hb dX7_commonDivisor_15 (by decide) (fun c23 => ?_) (fun c23 => ?_)
      · replace hf := (if_pos c23).symm.trans hf
        exact tX7_commonDivisor_34 X hr hlk x2 hf H locs ls hw (lv_sub hl [0] rfl)
      · replace hf := (if_neg c23).symm.trans hf
        refine lv_iload_n hx hb dX7_commonDivisor_18 rfl (lv_at hl 0 rfl) ?_
        refine lv_iload_n hx hb dX7_commonDivisor_19 rfl (lv_at hl 1 rfl) ?_
        obtain ⟨_, q24, hf⟩ := ob hf
        refine lv_irem hx hb dX7_commonDivisor_20 (nz_ne q24) ?_
        refine lv_topi (fun z25 ez25 => ?_)
        replace hf := nmb hf ez25
        refine lv_istore (lv' := [(5, .int z25), (2, .int x2), (3, .int x3), (4, .int x4)]) hx hb dX7_commonDivisor_21 hl (by decide) rfl (fun ls hl => ?_)
        refine lv_iload_n hx hb dX7_commonDivisor_23 rfl (lv_at hl 2 rfl) ?_
        refine lv_istore_n (lv' := [(2, .int x3), (5, .int z25), (3, .int x3), (4, .int x4)]) hx hb dX7_commonDivisor_24 rfl hl (by decide) rfl (fun ls hl => ?_)
        refine lv_iload hx hb dX7_commonDivisor_25 (lv_at hl 1 rfl) ?_
        refine lv_istore_n (lv' := [(3, .int z25), (2, .int x3), (5, .int z25), (4, .int x4)]) hx hb dX7_commonDivisor_27 rfl hl (by decide) rfl (fun ls hl => ?_)
        obtain ⟨z26, ez26⟩ : ∃ y : Int32, y = x4 + 1 := ⟨_, rfl⟩
        replace hf := nmb hf ez26
        refine lv_iinc (v := z26) (lv' := [(4, .int z26), (3, .int z25), (2, .int x3), (5, .int z25)]) hx hb dX7_commonDivisor_28 hl (k := 3) rfl (by rw [ez26]; rfl) (by decide) rfl (fun ls hl => ?_)
        refine lv_goto (tgt := 7) hx hb dX7_commonDivisor_31 (by decide) ?_
        exact ih x3 z25 z26 hf H locs ls hw (lv_sub hl [2, 1, 0] rfl)
set_option maxHeartbeats 4000000 in
set_option maxRecDepth 100000 in
theorem ctX7_commonDivisor (l : Launch) (E : EE) (b : Nat) {MC : Mem} {TC : Int64} {MM : Mem} {TM : Int64} {x0 : Int32} {x1 : Int32} {res : Int32}  (hf : gX7_commonDivisor x0 x1 = some res) : MetI l E b yX7_commonDivisor (.code yX7_commonDivisor cX7_commonDivisor 6 (some .int)) rmX7_commonDivisor [.int x0, .int x1] MC TC MM TM res MC TC MM TM := by
  refine Met.ofW (cc := cX7_commonDivisor) (maxL := 6) (ret := (some .int)) (by decide) rfl ?_
  intro p e s m args below meth c s₁ B hml hv
  obtain ⟨rfl, hP, hK⟩ := hv
  have hx := B.exec
  have hb := B.bytes
  have X : CX E p s m _ c cX7_commonDivisor 6 RX7 := ⟨hx, hb, hml, findClass_of_methodNamed B.named, fun w h => atoms_spec (ws := _ :: wt) B.pre w (List.mem_cons_of_mem _ h), hK⟩
  have hr := B.returns
  have hlk := B.notSynchronized
  have hw : WW E b MC TC MM TM s s.heap [] := ⟨hP, va_S.rf⟩
  have hl := lv_entry ([.int x0, .int x1]) (n := 6) (Nat.le_of_ble_eq_true rfl)
  rw [lg_entry_eq]
  generalize (lg_sl ([.int x0, .int x1]) ++ List.replicate (6 - (lg_sl ([.int x0, .int x1])).length) Slot.unset).toArray = ls at hl ⊢
  have hl : lv_has ls 6 [(0, .int x0), (1, .int x1)] := hl
  obtain ⟨H, hH⟩ : ∃ H, H = s.heap := ⟨_, rfl⟩
  obtain ⟨locs, hL⟩ : ∃ L : List Loc, L = [] := ⟨_, rfl⟩
  rw [← hH, ← hL] at hw
  suffices hg : W p l e rmX7_commonDivisor s m _ below meth c H locs 0 0 (MQ below (va_Qi (fun x (_ : Unit) => x = res) (fun _ t => PW E b MC TC MM TM t) (AA b)) _ s 0 0 (AA b)) (F0 m 0 ls []) by rw [hH, hL] at hg; exact hg
  clear hH hL
  rw [gX7_commonDivisor] at hf
  refine lv_iload_n hx hb dX7_commonDivisor_0 rfl (lv_at hl 0 rfl) ?_
  refine lv_istore_n (lv' := [(2, .int x0), (0, .int x0), (1, .int x1)]) hx hb dX7_commonDivisor_1 rfl hl (by decide) rfl (fun ls hl => ?_)
  refine lv_iload_n hx hb dX7_commonDivisor_2 rfl (lv_at hl 2 rfl) ?_
  refine lv_istore_n (lv' := [(3, .int x1), (2, .int x0), (0, .int x0), (1, .int x1)]) hx hb dX7_commonDivisor_3 rfl hl (by decide) rfl (fun ls hl => ?_)
  refine lv_iconst (v := 0) hx hb dX7_commonDivisor_4 (by decide) ?_
  refine lv_istore (lv' := [(4, .int 0), (3, .int x1), (2, .int x0), (0, .int x0), (1, .int x1)]) hx hb dX7_commonDivisor_5 hl (by decide) rfl (fun ls hl => ?_)
  exact tX7_commonDivisor_7 X hr hlk FU x0 x1 0 hf H locs ls hw (lv_sub hl [2, 1, 0] rfl)

abbrev rmX7_power : Room := { frames := 0, cells := 0, slots := 0, locals := 0 }
theorem hd_X7_power : Hd yX7_power RX7 2 := by decide +kernel
def gX7_power_4   : Nat → Int32 → Int32 → Int32 → Int32 → Option (Int32)
  | 0, _, _, _, _ => none
  | n + 1, x0, x1, x2, x3 => if x1 ≤ x3 then (some (x2)) else ((some (x2 * x0)).bind fun z28 => (some (x3 + 1)).bind fun z29 => (gX7_power_4 n) x0 x1 z28 z29)
def gX7_power (x0 : Int32) (x1 : Int32) : Option (Int32) := gX7_power_4 FU x0 x1 1 0
set_option maxHeartbeats 4000000 in
set_option maxRecDepth 100000 in
theorem tX7_power_4 {p : Program} {l : Launch} {e : Env} {s : State} {m : MethodId} {args : Array Value} {below : List Frame} {meth : Method} {c : Code} {E : EE} {b : Nat} {MC : Mem} {TC : Int64} {MM : Mem} {TM : Int64} {res : Int32} (X : CX E p s m args c cX7_power 4 RX7) (hr : meth.sig.returnType = (some .int)) (hlk : meth.locks = false)    : ∀ (n : Nat) (x0 : Int32) (x1 : Int32) (x2 : Int32) (x3 : Int32), gX7_power_4 n x0 x1 x2 x3 = some res → ∀ (H : Heap) (locs : List Loc) (ls : Array Slot), WW E b MC TC MM TM s H locs → lv_has ls 4 [(0, .int x0), (1, .int x1), (2, .int x2), (3, .int x3)] → W p l e rmX7_power s m args below meth c H locs 0 0 (MQ below (va_Qi (fun x (_ : Unit) => x = res) (fun _ t => PW E b MC TC MM TM t) (AA b)) args s 0 0 (AA b)) (F0 m 4 ls []) := by
  have hx := X.1
  have hb := X.2.1
  intro n
  induction n with
  | zero =>
    intro x0 x1 x2 x3 hf
    cases (show (none : Option (Int32)) = some res from hf)
  | succ n ih =>
    intro x0 x1 x2 x3 hf H locs ls hw hl
    rw [gX7_power_4] at hf
    refine lv_iload_n hx hb dX7_power_4 rfl (lv_at hl 3 rfl) ?_
    refine lv_iload_n hx hb dX7_power_5 rfl (lv_at hl 1 rfl) ?_
    refine lv_icmp_ge (tgt := 19) hx hb dX7_power_6 (by decide) (fun c27 => ?_) (fun c27 => ?_)
    · replace hf := (if_pos c27).symm.trans hf
      refine lv_iload_n hx hb dX7_power_19 rfl (lv_at hl 2 rfl) ?_
      replace hf := Option.some.inj hf
      subst hf
      exact eI X hw hr hlk dX7_power_20
    · replace hf := (if_neg c27).symm.trans hf
      refine lv_iload_n hx hb dX7_power_9 rfl (lv_at hl 2 rfl) ?_
      refine lv_iload_n hx hb dX7_power_10 rfl (lv_at hl 0 rfl) ?_
      refine lv_imul hx hb dX7_power_11 ?_
      refine lv_topi (fun z28 ez28 => ?_)
      replace hf := nmb hf ez28
      refine lv_istore_n (lv' := [(2, .int z28), (0, .int x0), (1, .int x1), (3, .int x3)]) hx hb dX7_power_12 rfl hl (by decide) rfl (fun ls hl => ?_)
      obtain ⟨z29, ez29⟩ : ∃ y : Int32, y = x3 + 1 := ⟨_, rfl⟩
      replace hf := nmb hf ez29
      refine lv_iinc (v := z29) (lv' := [(3, .int z29), (2, .int z28), (0, .int x0), (1, .int x1)]) hx hb dX7_power_13 hl (k := 3) rfl (by rw [ez29]; rfl) (by decide) rfl (fun ls hl => ?_)
      refine lv_goto (tgt := 4) hx hb dX7_power_16 (by decide) ?_
      exact ih x0 x1 z28 z29 hf H locs ls hw (lv_sub hl [2, 3, 1, 0] rfl)
set_option maxHeartbeats 4000000 in
set_option maxRecDepth 100000 in
theorem ctX7_power (l : Launch) (E : EE) (b : Nat) {MC : Mem} {TC : Int64} {MM : Mem} {TM : Int64} {x0 : Int32} {x1 : Int32} {res : Int32}  (hf : gX7_power x0 x1 = some res) : MetI l E b yX7_power (.code yX7_power cX7_power 4 (some .int)) rmX7_power [.int x0, .int x1] MC TC MM TM res MC TC MM TM := by
  refine Met.ofW (cc := cX7_power) (maxL := 4) (ret := (some .int)) (by decide) rfl ?_
  intro p e s m args below meth c s₁ B hml hv
  obtain ⟨rfl, hP, hK⟩ := hv
  have hx := B.exec
  have hb := B.bytes
  have X : CX E p s m _ c cX7_power 4 RX7 := ⟨hx, hb, hml, findClass_of_methodNamed B.named, fun w h => atoms_spec (ws := _ :: wt) B.pre w (List.mem_cons_of_mem _ h), hK⟩
  have hr := B.returns
  have hlk := B.notSynchronized
  have hw : WW E b MC TC MM TM s s.heap [] := ⟨hP, va_S.rf⟩
  have hl := lv_entry ([.int x0, .int x1]) (n := 4) (Nat.le_of_ble_eq_true rfl)
  rw [lg_entry_eq]
  generalize (lg_sl ([.int x0, .int x1]) ++ List.replicate (4 - (lg_sl ([.int x0, .int x1])).length) Slot.unset).toArray = ls at hl ⊢
  have hl : lv_has ls 4 [(0, .int x0), (1, .int x1)] := hl
  obtain ⟨H, hH⟩ : ∃ H, H = s.heap := ⟨_, rfl⟩
  obtain ⟨locs, hL⟩ : ∃ L : List Loc, L = [] := ⟨_, rfl⟩
  rw [← hH, ← hL] at hw
  suffices hg : W p l e rmX7_power s m _ below meth c H locs 0 0 (MQ below (va_Qi (fun x (_ : Unit) => x = res) (fun _ t => PW E b MC TC MM TM t) (AA b)) _ s 0 0 (AA b)) (F0 m 0 ls []) by rw [hH, hL] at hg; exact hg
  clear hH hL
  rw [gX7_power] at hf
  refine lv_iconst (v := 1) hx hb dX7_power_0 (by decide) ?_
  refine lv_istore_n (lv' := [(2, .int 1), (0, .int x0), (1, .int x1)]) hx hb dX7_power_1 rfl hl (by decide) rfl (fun ls hl => ?_)
  refine lv_iconst (v := 0) hx hb dX7_power_2 (by decide) ?_
  refine lv_istore_n (lv' := [(3, .int 0), (2, .int 1), (0, .int x0), (1, .int x1)]) hx hb dX7_power_3 rfl hl (by decide) rfl (fun ls hl => ?_)
  exact tX7_power_4 X hr hlk FU x0 x1 1 0 hf H locs ls hw (lv_sub hl [2, 3, 1, 0] rfl)

abbrev rmX7_odds : Room := { frames := 1, cells := 0, slots := 0, locals := 25 }
theorem hd_X7_odds : Hd yX7_odds RX7 4 := by decide +kernel
def gX7_odds_110   (x7 : Int32) (y0 : Int32) : Option (Int32) := (nz x7).bind fun _ => some (y0 / x7)
def gX7_odds_74   (x3 : Int32) (x4 : Int32) (x5 : Int32) : Option (Int32) := (gX7_power 10 x3).bind fun u43 => (gX7_commonDivisor x5 u43).bind fun u45 => if 0 < u45 then (if x4 = 0 then (gX7_odds_110 u45 x5) else (gX7_odds_110 u45 u43)) else (some ((-1)))
def gX7_odds (x1 : Int32) (x2 : Int32) (x3 : Int32) (x4 : Int32) : Option (Int32) := (gX7_within x1 0 10).bind fun u30 => if u30 = 0 then (some ((-1))) else ((gX7_within x2 0 7).bind fun u33 => if u33 = 0 then (some ((-1))) else ((gX7_within x3 0 7).bind fun u36 => if u36 = 0 then (some ((-1))) else ((gX7_within x4 0 1).bind fun u39 => if u39 = 0 then (some ((-1))) else (if x3 < x2 then (gX7_odds_74 x3 x4 0) else ((gX7_choose x3 x2).bind fun u50 => (gX7_power x1 x2).bind fun u52 => (gX7_power (10 - x1) (x3 - x2)).bind fun u54 => (some ((u50 * u52) * u54)).bind fun z56 => gX7_odds_74 x3 x4 z56)))))
set_option maxHeartbeats 4000000 in
set_option maxRecDepth 100000 in
theorem tX7_odds_110 {p : Program} {l : Launch} {e : Env} {s : State} {m : MethodId} {args : Array Value} {below : List Frame} {meth : Method} {c : Code} {E : EE} {b : Nat} {MC : Mem} {TC : Int64} {MM : Mem} {TM : Int64} {res : Int32} (X : CX E p s m args c cX7_odds 8 RX7) (hr : meth.sig.returnType = (some .int)) (hlk : meth.locks = false)    : ∀ (x7 : Int32) (y0 : Int32), gX7_odds_110 x7 y0 = some res → ∀ (H : Heap) (locs : List Loc) (ls : Array Slot), WW E b MC TC MM TM s H locs → lv_has ls 8 [(7, .int x7)] → W p l e rmX7_odds s m args below meth c H locs 0 0 (MQ below (va_Qi (fun x (_ : Unit) => x = res) (fun _ t => PW E b MC TC MM TM t) (AA b)) args s 0 0 (AA b)) (F0 m 110 ls [.int y0]) := by
  have hx := X.1
  have hb := X.2.1
  intro x7 y0 hf H locs ls hw hl
  rw [gX7_odds_110] at hf
  refine lv_iload hx hb dX7_odds_110 (lv_at hl 0 rfl) ?_
  obtain ⟨_, q49, hf⟩ := ob hf
  refine lv_idiv hx hb dX7_odds_112 (nz_ne q49) ?_
  replace hf := Option.some.inj hf
  subst hf
  exact eI X hw hr hlk dX7_odds_113
set_option maxHeartbeats 4000000 in
set_option maxRecDepth 100000 in
theorem tX7_odds_74 {p : Program} {l : Launch} {e : Env} {s : State} {m : MethodId} {args : Array Value} {below : List Frame} {meth : Method} {c : Code} {E : EE} {b : Nat} {MC : Mem} {TC : Int64} {MM : Mem} {TM : Int64} {res : Int32} (X : CX E p s m args c cX7_odds 8 RX7) (hr : meth.sig.returnType = (some .int)) (hlk : meth.locks = false)    : ∀ (x3 : Int32) (x4 : Int32) (x5 : Int32), gX7_odds_74 x3 x4 x5 = some res → ∀ (H : Heap) (locs : List Loc) (ls : Array Slot), WW E b MC TC MM TM s H locs → lv_has ls 8 [(3, .int x3), (4, .int x4), (5, .int x5)] → W p l e rmX7_odds s m args below meth c H locs 0 0 (MQ below (va_Qi (fun x (_ : Unit) => x = res) (fun _ t => PW E b MC TC MM TM t) (AA b)) args s 0 0 (AA b)) (F0 m 74 ls []) := by
  have hx := X.1
  have hb := X.2.1
  intro x3 x4 x5 hf H locs ls hw hl
  rw [gX7_odds_74] at hf
  refine lv_bipush (v := 10) hx hb dX7_odds_74 (by decide) ?_
  refine lv_iload_n hx hb dX7_odds_76 rfl (lv_at hl 0 rfl) ?_
  obtain ⟨u43, q44, hf⟩ := ob hf
  refine cSi (As := [.int 10, .int x3]) X hw (ctX7_power l E b  q44) ⟨mw_609, mw_610, mw_52, mw_611⟩ hd_X7_power ⟨Nat.le_of_ble_eq_true rfl, Nat.le_of_ble_eq_true rfl, rfl, rfl⟩ rfl hl.1 rfl (Nat.le_of_ble_eq_true rfl) dX7_odds_77 (fun H locs hw => ?_)
  refine lv_istore (lv' := [(6, .int u43), (3, .int x3), (4, .int x4), (5, .int x5)]) hx hb dX7_odds_80 hl (by decide) rfl (fun ls hl => ?_)
  refine lv_iload hx hb dX7_odds_82 (lv_at hl 3 rfl) ?_
  refine lv_iload hx hb dX7_odds_84 (lv_at hl 0 rfl) ?_
  obtain ⟨u45, q46, hf⟩ := ob hf
  refine cSi (As := [.int x5, .int u43]) X hw (ctX7_commonDivisor l E b  q46) ⟨mw_612, mw_613, mw_52, mw_614⟩ hd_X7_commonDivisor ⟨Nat.le_of_ble_eq_true rfl, Nat.le_of_ble_eq_true rfl, rfl, rfl⟩ rfl hl.1 rfl (Nat.le_of_ble_eq_true rfl) dX7_odds_86 (fun H locs hw => ?_)
  refine lv_istore (lv' := [(7, .int u45), (6, .int u43), (3, .int x3), (4, .int x4), (5, .int x5)]) hx hb dX7_odds_89 hl (by decide) rfl (fun ls hl => ?_)
  refine lv_iload hx hb dX7_odds_91 (lv_at hl 0 rfl) ?_
  refine lv_if_gt (tgt := 98) hx hb dX7_odds_93 (by decide) (fun c47 => ?_) (fun c47 => ?_)
  · replace hf := (if_pos c47).symm.trans hf
    refine lv_iload hx hb dX7_odds_98 (lv_at hl 3 rfl) ?_
    refine lv_if_ne (tgt := 108) hx hb dX7_odds_100 (by decide) (fun c48 => ?_) (fun c48 => ?_)
    · replace hf := (if_neg c48).symm.trans hf
      refine lv_iload hx hb dX7_odds_108 (lv_at hl 1 rfl) ?_
      exact tX7_odds_110 X hr hlk u45 u43 hf H locs ls hw (lv_sub hl [0] rfl)
    · replace hf := (if_pos c48).symm.trans hf
      refine lv_iload hx hb dX7_odds_103 (lv_at hl 4 rfl) ?_
      refine lv_goto (tgt := 110) hx hb dX7_odds_105 (by decide) ?_
      exact tX7_odds_110 X hr hlk u45 x5 hf H locs ls hw (lv_sub hl [0] rfl)
  · replace hf := (if_neg c47).symm.trans hf
    refine lv_iconst (v := (-1)) hx hb dX7_odds_96 (by decide) ?_
    replace hf := Option.some.inj hf
    subst hf
    exact eI X hw hr hlk dX7_odds_97
set_option maxHeartbeats 4000000 in
set_option maxRecDepth 100000 in
theorem ctX7_odds (l : Launch) (E : EE) (b : Nat) {MC : Mem} {TC : Int64} {MM : Mem} {TM : Int64} {x1 : Int32} {x2 : Int32} {x3 : Int32} {x4 : Int32} {res : Int32}  (hf : gX7_odds x1 x2 x3 x4 = some res) : MetI l E b yX7_odds (.code yX7_odds cX7_odds 8 (some .int)) rmX7_odds [.ref (b + 0), .int x1, .int x2, .int x3, .int x4] MC TC MM TM res MC TC MM TM := by
  refine Met.ofW (cc := cX7_odds) (maxL := 8) (ret := (some .int)) (by decide) rfl ?_
  intro p e s m args below meth c s₁ B hml hv
  obtain ⟨rfl, hP, hK⟩ := hv
  have hx := B.exec
  have hb := B.bytes
  have X : CX E p s m _ c cX7_odds 8 RX7 := ⟨hx, hb, hml, findClass_of_methodNamed B.named, fun w h => atoms_spec (ws := _ :: wt) B.pre w (List.mem_cons_of_mem _ h), hK⟩
  have hr := B.returns
  have hlk := B.notSynchronized
  have hw : WW E b MC TC MM TM s s.heap [] := ⟨hP, va_S.rf⟩
  have hl := lv_entry ([.ref (b + 0), .int x1, .int x2, .int x3, .int x4]) (n := 8) (Nat.le_of_ble_eq_true rfl)
  rw [lg_entry_eq]
  generalize (lg_sl ([.ref (b + 0), .int x1, .int x2, .int x3, .int x4]) ++ List.replicate (8 - (lg_sl ([.ref (b + 0), .int x1, .int x2, .int x3, .int x4])).length) Slot.unset).toArray = ls at hl ⊢
  have hl : lv_has ls 8 [(0, .ref (b + 0)), (1, .int x1), (2, .int x2), (3, .int x3), (4, .int x4)] := hl
  obtain ⟨H, hH⟩ : ∃ H, H = s.heap := ⟨_, rfl⟩
  obtain ⟨locs, hL⟩ : ∃ L : List Loc, L = [] := ⟨_, rfl⟩
  rw [← hH, ← hL] at hw
  suffices hg : W p l e rmX7_odds s m _ below meth c H locs 0 0 (MQ below (va_Qi (fun x (_ : Unit) => x = res) (fun _ t => PW E b MC TC MM TM t) (AA b)) _ s 0 0 (AA b)) (F0 m 0 ls []) by rw [hH, hL] at hg; exact hg
  clear hH hL
  rw [gX7_odds] at hf
  refine lv_iload_n hx hb dX7_odds_0 rfl (lv_at hl 1 rfl) ?_
  refine lv_iconst (v := 0) hx hb dX7_odds_1 (by decide) ?_
  refine lv_bipush (v := 10) hx hb dX7_odds_2 (by decide) ?_
  obtain ⟨u30, q31, hf⟩ := ob hf
  refine cSi (As := [.int x1, .int 0, .int 10]) X hw (ctX7_within l E b  q31) ⟨mw_316, mw_317, mw_52, mw_318⟩ hd_X7_within ⟨Nat.le_of_ble_eq_true rfl, Nat.le_of_ble_eq_true rfl, rfl, rfl⟩ rfl hl.1 rfl (Nat.le_of_ble_eq_true rfl) dX7_odds_4 (fun H locs hw => ?_)
  refine lv_if_eq (tgt := 40) hx hb dX7_odds_7 (by decide) (fun c32 => ?_) (fun c32 => ?_)
  · replace hf := (if_pos c32).symm.trans hf
    refine lv_iconst (v := (-1)) hx hb dX7_odds_40 (by decide) ?_
    replace hf := Option.some.inj hf
    subst hf
    exact eI X hw hr hlk dX7_odds_41
  · replace hf := (if_neg c32).symm.trans hf
    refine lv_iload_n hx hb dX7_odds_10 rfl (lv_at hl 2 rfl) ?_
    refine lv_iconst (v := 0) hx hb dX7_odds_11 (by decide) ?_
    refine lv_bipush (v := 7) hx hb dX7_odds_12 (by decide) ?_
    obtain ⟨u33, q34, hf⟩ := ob hf
    refine cSi (As := [.int x2, .int 0, .int 7]) X hw (ctX7_within l E b  q34) ⟨mw_316, mw_317, mw_52, mw_318⟩ hd_X7_within ⟨Nat.le_of_ble_eq_true rfl, Nat.le_of_ble_eq_true rfl, rfl, rfl⟩ rfl hl.1 rfl (Nat.le_of_ble_eq_true rfl) dX7_odds_14 (fun H locs hw => ?_)
    refine lv_if_eq (tgt := 40) hx hb dX7_odds_17 (by decide) (fun c35 => ?_) (fun c35 => ?_)
    · replace hf := (if_pos c35).symm.trans hf
      refine lv_iconst (v := (-1)) hx hb dX7_odds_40 (by decide) ?_
      replace hf := Option.some.inj hf
      subst hf
      exact eI X hw hr hlk dX7_odds_41
    · replace hf := (if_neg c35).symm.trans hf
      refine lv_iload_n hx hb dX7_odds_20 rfl (lv_at hl 3 rfl) ?_
      refine lv_iconst (v := 0) hx hb dX7_odds_21 (by decide) ?_
      refine lv_bipush (v := 7) hx hb dX7_odds_22 (by decide) ?_
      obtain ⟨u36, q37, hf⟩ := ob hf
      refine cSi (As := [.int x3, .int 0, .int 7]) X hw (ctX7_within l E b  q37) ⟨mw_316, mw_317, mw_52, mw_318⟩ hd_X7_within ⟨Nat.le_of_ble_eq_true rfl, Nat.le_of_ble_eq_true rfl, rfl, rfl⟩ rfl hl.1 rfl (Nat.le_of_ble_eq_true rfl) dX7_odds_24 (fun H locs hw => ?_)
      refine lv_if_eq (tgt := 40) hx hb dX7_odds_27 (by decide) (fun c38 => ?_) (fun c38 => ?_)
      · replace hf := (if_pos c38).symm.trans hf
        refine lv_iconst (v := (-1)) hx hb dX7_odds_40 (by decide) ?_
        replace hf := Option.some.inj hf
        subst hf
        exact eI X hw hr hlk dX7_odds_41
      · replace hf := (if_neg c38).symm.trans hf
        refine lv_iload hx hb dX7_odds_30 (lv_at hl 4 rfl) ?_
        refine lv_iconst (v := 0) hx hb dX7_odds_32 (by decide) ?_
        refine lv_iconst (v := 1) hx hb dX7_odds_33 (by decide) ?_
        obtain ⟨u39, q40, hf⟩ := ob hf
        refine cSi (As := [.int x4, .int 0, .int 1]) X hw (ctX7_within l E b  q40) ⟨mw_316, mw_317, mw_52, mw_318⟩ hd_X7_within ⟨Nat.le_of_ble_eq_true rfl, Nat.le_of_ble_eq_true rfl, rfl, rfl⟩ rfl hl.1 rfl (Nat.le_of_ble_eq_true rfl) dX7_odds_34 (fun H locs hw => ?_)
        refine lv_if_ne (tgt := 42) hx hb dX7_odds_37 (by decide) (fun c41 => ?_) (fun c41 => ?_)
        · replace hf := (if_neg c41).symm.trans hf
          refine lv_iconst (v := 0) hx hb dX7_odds_42 (by decide) ?_
          refine lv_istore (lv' := [(5, .int 0), (0, .ref (b + 0)), (1, .int x1), (2, .int x2), (3, .int x3), (4, .int x4)]) hx hb dX7_odds_43 hl (by decide) rfl (fun ls hl => ?_)
          refine lv_iload_n hx hb dX7_odds_45 rfl (lv_at hl 3 rfl) ?_
          refine lv_iload_n hx hb dX7_odds_46 rfl (lv_at hl 4 rfl) ?_
          refine lv_icmp_gt (tgt := 74) hx hb dX7_odds_47 (by decide) (fun c42 => ?_) (fun c42 => ?_)
          · replace hf := (if_pos c42).symm.trans hf
            exact tX7_odds_74 X hr hlk x3 x4 0 hf H locs ls hw (lv_sub hl [4, 5, 0] rfl)
          · replace hf := (if_neg c42).symm.trans hf
            refine lv_iload_n hx hb dX7_odds_50 rfl (lv_at hl 4 rfl) ?_
            refine lv_iload_n hx hb dX7_odds_51 rfl (lv_at hl 3 rfl) ?_
            obtain ⟨u50, q51, hf⟩ := ob hf
            refine cSi (As := [.int x3, .int x2]) X hw (ctX7_choose l E b  q51) ⟨mw_606, mw_607, mw_52, mw_608⟩ hd_X7_choose ⟨Nat.le_of_ble_eq_true rfl, Nat.le_of_ble_eq_true rfl, rfl, rfl⟩ rfl hl.1 rfl (Nat.le_of_ble_eq_true rfl) dX7_odds_52 (fun H locs hw => ?_)
            refine lv_iload_n hx hb dX7_odds_55 rfl (lv_at hl 2 rfl) ?_
            refine lv_iload_n hx hb dX7_odds_56 rfl (lv_at hl 3 rfl) ?_
            obtain ⟨u52, q53, hf⟩ := ob hf
            refine cSi (As := [.int x1, .int x2]) X hw (ctX7_power l E b  q53) ⟨mw_609, mw_610, mw_52, mw_611⟩ hd_X7_power ⟨Nat.le_of_ble_eq_true rfl, Nat.le_of_ble_eq_true rfl, rfl, rfl⟩ rfl hl.1 rfl (Nat.le_of_ble_eq_true rfl) dX7_odds_57 (fun H locs hw => ?_)
            refine lv_imul hx hb dX7_odds_60 ?_
            refine lv_bipush (v := 10) hx hb dX7_odds_61 (by decide) ?_
            refine lv_iload_n hx hb dX7_odds_63 rfl (lv_at hl 2 rfl) ?_
            refine lv_isub hx hb dX7_odds_64 ?_
            refine lv_iload_n hx hb dX7_odds_65 rfl (lv_at hl 4 rfl) ?_
            refine lv_iload_n hx hb dX7_odds_66 rfl (lv_at hl 3 rfl) ?_
            refine lv_isub hx hb dX7_odds_67 ?_
            obtain ⟨u54, q55, hf⟩ := ob hf
            refine cSi (As := [.int (10 - x1), .int (x3 - x2)]) X hw (ctX7_power l E b  q55) ⟨mw_609, mw_610, mw_52, mw_611⟩ hd_X7_power ⟨Nat.le_of_ble_eq_true rfl, Nat.le_of_ble_eq_true rfl, rfl, rfl⟩ rfl hl.1 rfl (Nat.le_of_ble_eq_true rfl) dX7_odds_68 (fun H locs hw => ?_)
            refine lv_imul hx hb dX7_odds_71 ?_
            refine lv_topi (fun z56 ez56 => ?_)
            replace hf := nmb hf ez56
            refine lv_istore (lv' := [(5, .int z56), (0, .ref (b + 0)), (1, .int x1), (2, .int x2), (3, .int x3), (4, .int x4)]) hx hb dX7_odds_72 hl (by decide) rfl (fun ls hl => ?_)
            exact tX7_odds_74 X hr hlk x3 x4 z56 hf H locs ls hw (lv_sub hl [4, 5, 0] rfl)
        · replace hf := (if_pos c41).symm.trans hf
          refine lv_iconst (v := (-1)) hx hb dX7_odds_40 (by decide) ?_
          replace hf := Option.some.inj hf
          subst hf
          exact eI X hw hr hlk dX7_odds_41

abbrev rmX7_saw : Room := { frames := 2, cells := 0, slots := 0, locals := 42 }
theorem hd_X7_saw : Hd yX7_saw RX7 1 := by decide +kernel
def gX7_saw (x1 : Int32) (M : Mem) : Option (Int32 × Mem) := (gX7_isThought x1).bind fun u57 => if u57 = 0 then (some ((-1), M)) else (if (M 181 3) < 4 then ((stA 4 M 182 (M 181 3) x1).bind fun M61 => (some (us M61 181 3 ((M61 181 3) + 1))).bind fun M63 => some (M63 181 3, M63)) else (some ((-3), M)))
set_option maxHeartbeats 4000000 in
set_option maxRecDepth 100000 in
theorem ctX7_saw (l : Launch) (E : EE) (b : Nat) {TC : Int64} {MM : Mem} {TM : Int64} {x1 : Int32} {M : Mem} {res : Int32 × Mem}  (hf : gX7_saw x1 M = some res) : MetI l E b yX7_saw (.code yX7_saw cX7_saw 2 (some .int)) rmX7_saw [.ref (b + 0), .int x1] M TC MM TM res.1 res.2 TC MM TM := by
  refine Met.ofW (cc := cX7_saw) (maxL := 2) (ret := (some .int)) (by decide) rfl ?_
  intro p e s m args below meth c s₁ B hml hv
  obtain ⟨rfl, hP, hK⟩ := hv
  have hx := B.exec
  have hb := B.bytes
  have X : CX E p s m _ c cX7_saw 2 RX7 := ⟨hx, hb, hml, findClass_of_methodNamed B.named, fun w h => atoms_spec (ws := _ :: wt) B.pre w (List.mem_cons_of_mem _ h), hK⟩
  have hr := B.returns
  have hlk := B.notSynchronized
  have hw : WW E b M TC MM TM s s.heap [] := ⟨hP, va_S.rf⟩
  have hl := lv_entry ([.ref (b + 0), .int x1]) (n := 2) (Nat.le_of_ble_eq_true rfl)
  rw [lg_entry_eq]
  generalize (lg_sl ([.ref (b + 0), .int x1]) ++ List.replicate (2 - (lg_sl ([.ref (b + 0), .int x1])).length) Slot.unset).toArray = ls at hl ⊢
  have hl : lv_has ls 2 [(0, .ref (b + 0)), (1, .int x1)] := hl
  obtain ⟨H, hH⟩ : ∃ H, H = s.heap := ⟨_, rfl⟩
  obtain ⟨locs, hL⟩ : ∃ L : List Loc, L = [] := ⟨_, rfl⟩
  rw [← hH, ← hL] at hw
  suffices hg : W p l e rmX7_saw s m _ below meth c H locs 0 0 (MQ below (va_Qi (fun x (_ : Unit) => x = res.1) (fun _ t => PW E b res.2 TC MM TM t) (AA b)) _ s 0 0 (AA b)) (F0 m 0 ls []) by rw [hH, hL] at hg; exact hg
  clear hH hL
  rw [gX7_saw] at hf
  refine lv_iload_n hx hb dX7_saw_0 rfl (lv_at hl 1 rfl) ?_
  obtain ⟨u57, q58, hf⟩ := ob hf
  refine cSi (As := [.int x1]) X hw (ctX7_isThought l E b  q58) ⟨mw_432, mw_433, mw_52, mw_434⟩ hd_X7_isThought ⟨Nat.le_of_ble_eq_true rfl, Nat.le_of_ble_eq_true rfl, rfl, rfl⟩ rfl hl.1 rfl (Nat.le_of_ble_eq_true rfl) dX7_saw_1 (fun H locs hw => ?_)
  refine lv_if_ne (tgt := 9) hx hb dX7_saw_4 (by decide) (fun c59 => ?_) (fun c59 => ?_)
  · replace hf := (if_neg c59).symm.trans hf
    refine lv_aload_n hx hb dX7_saw_9 rfl (lv_at hl 0 rfl) ?_
    refine gt_X7 X hw 5 kk_0 rfl (by decide) mw_283 rfl dX7_saw_10 ?_
    refine gt_X0 X hw 3 kk_181 rfl (by decide) mw_230 rfl dX7_saw_13 ?_
    refine lv_iconst (v := 4) hx hb dX7_saw_16 (by decide) ?_
    refine lv_icmp_lt (tgt := 23) hx hb dX7_saw_17 (by decide) (fun c60 => ?_) (fun c60 => ?_)
    · replace hf := (if_pos c60).symm.trans hf
      refine lv_aload_n hx hb dX7_saw_23 rfl (lv_at hl 0 rfl) ?_
      refine gt_X7 X hw 5 kk_0 rfl (by decide) mw_283 rfl dX7_saw_24 ?_
      refine gt_X0 X hw 0 kk_181 rfl (by decide) mw_224 rfl dX7_saw_27 ?_
      refine lv_aload_n hx hb dX7_saw_30 rfl (lv_at hl 0 rfl) ?_
      refine gt_X7 X hw 5 kk_0 rfl (by decide) mw_283 rfl dX7_saw_31 ?_
      refine gt_X0 X hw 3 kk_181 rfl (by decide) mw_230 rfl dX7_saw_34 ?_
      refine lv_iload_n hx hb dX7_saw_37 rfl (lv_at hl 1 rfl) ?_
      obtain ⟨M61, q62, hf⟩ := ob hf
      refine astC X hw kdv_182 q62 dX7_saw_38 (fun H locs hw => ?_)
      refine lv_aload_n hx hb dX7_saw_39 rfl (lv_at hl 0 rfl) ?_
      refine gt_X7 X hw 5 kk_0 rfl (by decide) mw_283 rfl dX7_saw_40 ?_
      refine lv_dup hx hb dX7_saw_43 rfl ?_
      refine gt_X0 X hw 3 kk_181 rfl (by decide) mw_230 rfl dX7_saw_44 ?_
      refine lv_iconst (v := 1) hx hb dX7_saw_47 (by decide) ?_
      refine lv_iadd hx hb dX7_saw_48 ?_
      obtain ⟨M63, eM63, hf⟩ := ob hf
      refine pt_X0_3 X hw kk_181 mw_230 dX7_saw_49 (fun H locs hw => ?_)
      rw [Option.some.inj eM63] at hw
      refine lv_aload_n hx hb dX7_saw_52 rfl (lv_at hl 0 rfl) ?_
      refine gt_X7 X hw 5 kk_0 rfl (by decide) mw_283 rfl dX7_saw_53 ?_
      refine gt_X0 X hw 3 kk_181 rfl (by decide) mw_230 rfl dX7_saw_56 ?_
      replace hf := Option.some.inj hf
      subst hf
      exact eI X hw hr hlk dX7_saw_59
    · replace hf := (if_neg c60).symm.trans hf
      refine lv_bipush (v := (-3)) hx hb dX7_saw_20 (by decide) ?_
      replace hf := Option.some.inj hf
      subst hf
      exact eI X hw hr hlk dX7_saw_22
  · replace hf := (if_pos c59).symm.trans hf
    refine lv_iconst (v := (-1)) hx hb dX7_saw_7 (by decide) ?_
    replace hf := Option.some.inj hf
    subst hf
    exact eI X hw hr hlk dX7_saw_8

abbrev rmX7_nextInLock : Room := { frames := 2, cells := 0, slots := 0, locals := 46 }
theorem hd_X7_nextInLock : Hd yX7_nextInLock RX7 0 := by decide +kernel
def gX7_nextInLock_97  (k10 : Int32 → Mem → Option (Int32 × Mem)) (k36 : Int32 → Int32 → Int32 → Mem → Option (Int32 × Mem)) (x1 : Int32) (x2 : Int32) (x3 : Int32) (M : Mem) : Option (Int32 × Mem) := (some (x3 + 1)).bind fun z76 => k36 x1 x2 z76 M
def gX7_nextInLock_36  (k10 : Int32 → Mem → Option (Int32 × Mem)) : Nat → Int32 → Int32 → Int32 → Mem → Option (Int32 × Mem)
  | 0, _, _, _, _ => none
  | n + 1, x1, x2, x3, M => if x2 ≤ (x3 + (M 181 3)) then ((some (x1 + 1)).bind fun z72 => k10 z72 M) else ((gX0_fitAt 9 x1 x3 M).bind fun u73 => if u73 = 0 then (gX7_nextInLock_97 k10 (gX7_nextInLock_36 k10 n) x1 x2 x3 M) else ((gX1_layerAt 9 x1 (x3 + (M 181 3)) M).bind fun u77 => (ldA 10 (M 195) u77).bind fun v79 => (stA 10 M 195 u77 (v79 + 1)).bind fun M81 => gX7_nextInLock_97 k10 (gX7_nextInLock_36 k10 n) x1 x2 x3 M81))
def gX7_nextInLock_10   : Nat → Int32 → Mem → Option (Int32 × Mem)
  | 0, _, _ => none
  | n + 1, x1, M => if (M 191 3) ≤ x1 then ((gX7_mostOf 195 10 M).bind fun u67 => some (u67, M)) else ((ldA 5 (M 10) x1).bind fun v69 => gX7_nextInLock_36 (gX7_nextInLock_10 n) FU x1 v69 0 M)
def gX7_nextInLock (M : Mem) : Option (Int32 × Mem) := (gJ7_fill_53178 195 10 0 M).bind fun u64 => gX7_nextInLock_10 FU 0 u64
set_option maxHeartbeats 4000000 in
set_option maxRecDepth 100000 in
theorem tX7_nextInLock_97 {p : Program} {l : Launch} {e : Env} {s : State} {m : MethodId} {args : Array Value} {below : List Frame} {meth : Method} {c : Code} {E : EE} {b : Nat} {TC : Int64} {MM : Mem} {TM : Int64} {res : Int32 × Mem} (X : CX E p s m args c cX7_nextInLock 4 RX7) (hr : meth.sig.returnType = (some .int)) (hlk : meth.locks = false)   {k10 : Int32 → Mem → Option (Int32 × Mem)} (hk10 : ∀ (x1 : Int32) (M : Mem), k10 x1 M = some res → ∀ (H : Heap) (locs : List Loc) (ls : Array Slot), WW E b M TC MM TM s H locs → lv_has ls 4 [(0, .ref (b + 0)), (1, .int x1)] → W p l e rmX7_nextInLock s m args below meth c H locs 0 0 (MQ below (va_Qi (fun x (_ : Unit) => x = res.1) (fun _ t => PW E b res.2 TC MM TM t) (AA b)) args s 0 0 (AA b)) (F0 m 10 ls [])) {k36 : Int32 → Int32 → Int32 → Mem → Option (Int32 × Mem)} (hk36 : ∀ (x1 : Int32) (x2 : Int32) (x3 : Int32) (M : Mem), k36 x1 x2 x3 M = some res → ∀ (H : Heap) (locs : List Loc) (ls : Array Slot), WW E b M TC MM TM s H locs → lv_has ls 4 [(0, .ref (b + 0)), (1, .int x1), (2, .int x2), (3, .int x3)] → W p l e rmX7_nextInLock s m args below meth c H locs 0 0 (MQ below (va_Qi (fun x (_ : Unit) => x = res.1) (fun _ t => PW E b res.2 TC MM TM t) (AA b)) args s 0 0 (AA b)) (F0 m 36 ls [])) : ∀ (x1 : Int32) (x2 : Int32) (x3 : Int32) (M : Mem), gX7_nextInLock_97 k10 k36 x1 x2 x3 M = some res → ∀ (H : Heap) (locs : List Loc) (ls : Array Slot), WW E b M TC MM TM s H locs → lv_has ls 4 [(0, .ref (b + 0)), (1, .int x1), (2, .int x2), (3, .int x3)] → W p l e rmX7_nextInLock s m args below meth c H locs 0 0 (MQ below (va_Qi (fun x (_ : Unit) => x = res.1) (fun _ t => PW E b res.2 TC MM TM t) (AA b)) args s 0 0 (AA b)) (F0 m 97 ls []) := by
  have hx := X.1
  have hb := X.2.1
  intro x1 x2 x3 M hf H locs ls hw hl
  rw [gX7_nextInLock_97] at hf
  obtain ⟨z76, ez76⟩ : ∃ y : Int32, y = x3 + 1 := ⟨_, rfl⟩
  replace hf := nmb hf ez76
  refine lv_iinc (v := z76) (lv' := [(3, .int z76), (0, .ref (b + 0)), (1, .int x1), (2, .int x2)]) hx hb dX7_nextInLock_97 hl (k := 3) rfl (by rw [ez76]; rfl) (by decide) rfl (fun ls hl => ?_)
  refine lv_goto (tgt := 36) hx hb dX7_nextInLock_100 (by decide) ?_
  exact hk36 x1 x2 z76 M hf H locs ls hw (lv_sub hl [1, 2, 3, 0] rfl)
set_option maxHeartbeats 4000000 in
set_option maxRecDepth 100000 in
theorem tX7_nextInLock_36 {p : Program} {l : Launch} {e : Env} {s : State} {m : MethodId} {args : Array Value} {below : List Frame} {meth : Method} {c : Code} {E : EE} {b : Nat} {TC : Int64} {MM : Mem} {TM : Int64} {res : Int32 × Mem} (X : CX E p s m args c cX7_nextInLock 4 RX7) (hr : meth.sig.returnType = (some .int)) (hlk : meth.locks = false)   {k10 : Int32 → Mem → Option (Int32 × Mem)} (hk10 : ∀ (x1 : Int32) (M : Mem), k10 x1 M = some res → ∀ (H : Heap) (locs : List Loc) (ls : Array Slot), WW E b M TC MM TM s H locs → lv_has ls 4 [(0, .ref (b + 0)), (1, .int x1)] → W p l e rmX7_nextInLock s m args below meth c H locs 0 0 (MQ below (va_Qi (fun x (_ : Unit) => x = res.1) (fun _ t => PW E b res.2 TC MM TM t) (AA b)) args s 0 0 (AA b)) (F0 m 10 ls [])) : ∀ (n : Nat) (x1 : Int32) (x2 : Int32) (x3 : Int32) (M : Mem), gX7_nextInLock_36 k10 n x1 x2 x3 M = some res → ∀ (H : Heap) (locs : List Loc) (ls : Array Slot), WW E b M TC MM TM s H locs → lv_has ls 4 [(0, .ref (b + 0)), (1, .int x1), (2, .int x2), (3, .int x3)] → W p l e rmX7_nextInLock s m args below meth c H locs 0 0 (MQ below (va_Qi (fun x (_ : Unit) => x = res.1) (fun _ t => PW E b res.2 TC MM TM t) (AA b)) args s 0 0 (AA b)) (F0 m 36 ls []) := by
  have hx := X.1
  have hb := X.2.1
  intro n
  induction n with
  | zero =>
    intro x1 x2 x3 M hf
    cases (show (none : Option (Int32 × Mem)) = some res from hf)
  | succ n ih =>
    intro x1 x2 x3 M hf H locs ls hw hl
    rw [gX7_nextInLock_36] at hf
    refine lv_iload_n hx hb dX7_nextInLock_36 rfl (lv_at hl 3 rfl) ?_
    refine lv_aload_n hx hb dX7_nextInLock_37 rfl (lv_at hl 0 rfl) ?_
    refine gt_X7 X hw 5 kk_0 rfl (by decide) mw_283 rfl dX7_nextInLock_38 ?_
    refine gt_X0 X hw 3 kk_181 rfl (by decide) mw_230 rfl dX7_nextInLock_41 ?_
    refine lv_iadd hx hb dX7_nextInLock_44 ?_
    refine lv_iload_n hx hb dX7_nextInLock_45 rfl (lv_at hl 2 rfl) ?_
    refine lv_icmp_ge (tgt := 103) hx hb dX7_nextInLock_46 (by decide) (fun c71 => ?_) (fun c71 => ?_)
    · replace hf := (if_pos c71).symm.trans hf
      obtain ⟨z72, ez72⟩ : ∃ y : Int32, y = x1 + 1 := ⟨_, rfl⟩
      replace hf := nmb hf ez72
      refine lv_iinc (v := z72) (lv' := [(1, .int z72), (0, .ref (b + 0)), (2, .int x2), (3, .int x3)]) hx hb dX7_nextInLock_103 hl (k := 1) rfl (by rw [ez72]; rfl) (by decide) rfl (fun ls hl => ?_)
      refine lv_goto (tgt := 10) hx hb dX7_nextInLock_106 (by decide) ?_
      exact hk10 z72 M hf H locs ls hw (lv_sub hl [1, 0] rfl)
    · replace hf := (if_neg c71).symm.trans hf
      refine lv_aload_n hx hb dX7_nextInLock_49 rfl (lv_at hl 0 rfl) ?_
      refine gt_X7 X hw 5 kk_0 rfl (by decide) mw_283 rfl dX7_nextInLock_50 ?_
      refine lv_aload_n hx hb dX7_nextInLock_53 rfl (lv_at hl 0 rfl) ?_
      refine gt_X7 X hw 2 kk_0 rfl (by decide) mw_280 rfl dX7_nextInLock_54 ?_
      refine gt_X5 X hw 0 kk_8 rfl (by decide) mw_205 rfl dX7_nextInLock_57 ?_
      refine lv_iload_n hx hb dX7_nextInLock_60 rfl (lv_at hl 1 rfl) ?_
      refine lv_iload_n hx hb dX7_nextInLock_61 rfl (lv_at hl 3 rfl) ?_
      obtain ⟨u73, q74, hf⟩ := ob hf
      refine cVi (As := [.ref (b + 9), .int x1, .int x3]) X hw (ctX0_fitAt l E b kk_9 q74) ⟨mw_627, mw_628, mw_629, mw_59, mw_630⟩ hd_X0_fitAt ⟨Nat.le_of_ble_eq_true rfl, Nat.le_of_ble_eq_true rfl, rfl, rfl⟩ (kdk kk_181 (by decide)) (ce_X0 E _ _ _ _ kk_181) (show vwCl[0]? = some (RX0, TX0, 5) from rfl) rfl hl.1 rfl (Nat.le_of_ble_eq_true rfl) dX7_nextInLock_62 (fun H locs hw => ?_)
      refine lv_if_eq (tgt := 97) hx hb dX7_nextInLock_65 (by decide) (fun c75 => ?_) (fun c75 => ?_)
      · replace hf := (if_pos c75).symm.trans hf
        exact tX7_nextInLock_97 X hr hlk hk10 ih x1 x2 x3 M hf H locs ls hw (lv_sub hl [0, 1, 2, 3] rfl)
      · replace hf := (if_neg c75).symm.trans hf
        refine lv_aload_n hx hb dX7_nextInLock_68 rfl (lv_at hl 0 rfl) ?_
        refine gt_X7 X hw 8 kk_0 rfl (by decide) mw_286 rfl dX7_nextInLock_69 ?_
        refine lv_aload_n hx hb dX7_nextInLock_72 rfl (lv_at hl 0 rfl) ?_
        refine gt_X7 X hw 2 kk_0 rfl (by decide) mw_280 rfl dX7_nextInLock_73 ?_
        refine gt_X5 X hw 0 kk_8 rfl (by decide) mw_205 rfl dX7_nextInLock_76 ?_
        refine lv_iload_n hx hb dX7_nextInLock_79 rfl (lv_at hl 1 rfl) ?_
        refine lv_iload_n hx hb dX7_nextInLock_80 rfl (lv_at hl 3 rfl) ?_
        refine lv_aload_n hx hb dX7_nextInLock_81 rfl (lv_at hl 0 rfl) ?_
        refine gt_X7 X hw 5 kk_0 rfl (by decide) mw_283 rfl dX7_nextInLock_82 ?_
        refine gt_X0 X hw 3 kk_181 rfl (by decide) mw_230 rfl dX7_nextInLock_85 ?_
        refine lv_iadd hx hb dX7_nextInLock_88 ?_
        obtain ⟨u77, q78, hf⟩ := ob hf
        refine cVi (As := [.int x1, .int (x3 + (M 181 3))]) X hw (ctX1_layerAt l E b kk_9 q78) ⟨mw_424, mw_413, mw_414, mw_57, mw_415⟩ hd_X1_layerAt ⟨Nat.le_of_ble_eq_true rfl, Nat.le_of_ble_eq_true rfl, rfl, rfl⟩ (kdk kk_9 (by decide)) (ce_X1 E _ _ _ _ kk_9) (show vwCl[1]? = some (RX1, TX1, 6) from rfl) rfl hl.1 rfl (Nat.le_of_ble_eq_true rfl) dX7_nextInLock_89 (fun H locs hw => ?_)
        refine lv_dup2_11 hx hb dX7_nextInLock_92 rfl rfl ?_
        obtain ⟨v79, q80, hf⟩ := ob hf
        refine aldC X hw kdv_195 q80 dX7_nextInLock_93 ?_
        refine lv_iconst (v := 1) hx hb dX7_nextInLock_94 (by decide) ?_
        refine lv_iadd hx hb dX7_nextInLock_95 ?_
        obtain ⟨M81, q82, hf⟩ := ob hf
        refine astC X hw kdv_195 q82 dX7_nextInLock_96 (fun H locs hw => ?_)
        exact tX7_nextInLock_97 X hr hlk hk10 ih x1 x2 x3 M81 hf H locs ls hw (lv_sub hl [0, 1, 2, 3] rfl)
set_option maxHeartbeats 4000000 in
set_option maxRecDepth 100000 in
theorem tX7_nextInLock_10 {p : Program} {l : Launch} {e : Env} {s : State} {m : MethodId} {args : Array Value} {below : List Frame} {meth : Method} {c : Code} {E : EE} {b : Nat} {TC : Int64} {MM : Mem} {TM : Int64} {res : Int32 × Mem} (X : CX E p s m args c cX7_nextInLock 4 RX7) (hr : meth.sig.returnType = (some .int)) (hlk : meth.locks = false)    : ∀ (n : Nat) (x1 : Int32) (M : Mem), gX7_nextInLock_10 n x1 M = some res → ∀ (H : Heap) (locs : List Loc) (ls : Array Slot), WW E b M TC MM TM s H locs → lv_has ls 4 [(0, .ref (b + 0)), (1, .int x1)] → W p l e rmX7_nextInLock s m args below meth c H locs 0 0 (MQ below (va_Qi (fun x (_ : Unit) => x = res.1) (fun _ t => PW E b res.2 TC MM TM t) (AA b)) args s 0 0 (AA b)) (F0 m 10 ls []) := by
  have hx := X.1
  have hb := X.2.1
  intro n
  induction n with
  | zero =>
    intro x1 M hf
    cases (show (none : Option (Int32 × Mem)) = some res from hf)
  | succ n ih =>
    intro x1 M hf H locs ls hw hl
    rw [gX7_nextInLock_10] at hf
    refine lv_iload_n hx hb dX7_nextInLock_10 rfl (lv_at hl 1 rfl) ?_
    refine lv_aload_n hx hb dX7_nextInLock_11 rfl (lv_at hl 0 rfl) ?_
    refine gt_X7 X hw 7 kk_0 rfl (by decide) mw_285 rfl dX7_nextInLock_12 ?_
    refine gt_X6 X hw 3 kk_191 rfl (by decide) mw_114 rfl dX7_nextInLock_15 ?_
    refine lv_icmp_ge (tgt := 109) hx hb dX7_nextInLock_18 (by decide) (fun c66 => ?_) (fun c66 => ?_)
    · replace hf := (if_pos c66).symm.trans hf
      refine lv_aload_n hx hb dX7_nextInLock_109 rfl (lv_at hl 0 rfl) ?_
      refine gt_X7 X hw 8 kk_0 rfl (by decide) mw_286 rfl dX7_nextInLock_110 ?_
      obtain ⟨u67, q68, hf⟩ := ob hf
      refine cSi (As := [.ref (b + 195)]) X hw (ctX7_mostOf l E b kdv_195 q68) ⟨mw_530, mw_531, mw_52, mw_532⟩ hd_X7_mostOf ⟨Nat.le_of_ble_eq_true rfl, Nat.le_of_ble_eq_true rfl, rfl, rfl⟩ rfl hl.1 rfl (Nat.le_of_ble_eq_true rfl) dX7_nextInLock_113 (fun H locs hw => ?_)
      replace hf := Option.some.inj hf
      subst hf
      exact eI X hw hr hlk dX7_nextInLock_116
    · replace hf := (if_neg c66).symm.trans hf
      refine lv_aload_n hx hb dX7_nextInLock_21 rfl (lv_at hl 0 rfl) ?_
      refine gt_X7 X hw 2 kk_0 rfl (by decide) mw_280 rfl dX7_nextInLock_22 ?_
      refine gt_X5 X hw 0 kk_8 rfl (by decide) mw_205 rfl dX7_nextInLock_25 ?_
      refine gt_X1 X hw 0 kk_9 rfl (by decide) mw_181 rfl dX7_nextInLock_28 ?_
      refine lv_iload_n hx hb dX7_nextInLock_31 rfl (lv_at hl 1 rfl) ?_
      obtain ⟨v69, q70, hf⟩ := ob hf
      refine aldC X hw kdv_10 q70 dX7_nextInLock_32 ?_
      refine lv_istore_n (lv' := [(2, .int v69), (0, .ref (b + 0)), (1, .int x1)]) hx hb dX7_nextInLock_33 rfl hl (by decide) rfl (fun ls hl => ?_)
      refine lv_iconst (v := 0) hx hb dX7_nextInLock_34 (by decide) ?_
      refine lv_istore_n (lv' := [(3, .int 0), (2, .int v69), (0, .ref (b + 0)), (1, .int x1)]) hx hb dX7_nextInLock_35 rfl hl (by decide) rfl (fun ls hl => ?_)
      exact tX7_nextInLock_36 X hr hlk ih FU x1 v69 0 M hf H locs ls hw (lv_sub hl [2, 3, 1, 0] rfl)
set_option maxHeartbeats 4000000 in
set_option maxRecDepth 100000 in
theorem ctX7_nextInLock (l : Launch) (E : EE) (b : Nat) {TC : Int64} {MM : Mem} {TM : Int64} {M : Mem} {res : Int32 × Mem}  (hf : gX7_nextInLock M = some res) : MetI l E b yX7_nextInLock (.code yX7_nextInLock cX7_nextInLock 4 (some .int)) rmX7_nextInLock [.ref (b + 0)] M TC MM TM res.1 res.2 TC MM TM := by
  refine Met.ofW (cc := cX7_nextInLock) (maxL := 4) (ret := (some .int)) (by decide) rfl ?_
  intro p e s m args below meth c s₁ B hml hv
  obtain ⟨rfl, hP, hK⟩ := hv
  have hx := B.exec
  have hb := B.bytes
  have X : CX E p s m _ c cX7_nextInLock 4 RX7 := ⟨hx, hb, hml, findClass_of_methodNamed B.named, fun w h => atoms_spec (ws := _ :: wt) B.pre w (List.mem_cons_of_mem _ h), hK⟩
  have hr := B.returns
  have hlk := B.notSynchronized
  have hw : WW E b M TC MM TM s s.heap [] := ⟨hP, va_S.rf⟩
  have hl := lv_entry ([.ref (b + 0)]) (n := 4) (Nat.le_of_ble_eq_true rfl)
  rw [lg_entry_eq]
  generalize (lg_sl ([.ref (b + 0)]) ++ List.replicate (4 - (lg_sl ([.ref (b + 0)])).length) Slot.unset).toArray = ls at hl ⊢
  have hl : lv_has ls 4 [(0, .ref (b + 0))] := hl
  obtain ⟨H, hH⟩ : ∃ H, H = s.heap := ⟨_, rfl⟩
  obtain ⟨locs, hL⟩ : ∃ L : List Loc, L = [] := ⟨_, rfl⟩
  rw [← hH, ← hL] at hw
  suffices hg : W p l e rmX7_nextInLock s m _ below meth c H locs 0 0 (MQ below (va_Qi (fun x (_ : Unit) => x = res.1) (fun _ t => PW E b res.2 TC MM TM t) (AA b)) _ s 0 0 (AA b)) (F0 m 0 ls []) by rw [hH, hL] at hg; exact hg
  clear hH hL
  rw [gX7_nextInLock] at hf
  refine lv_aload_n hx hb dX7_nextInLock_0 rfl (lv_at hl 0 rfl) ?_
  refine gt_X7 X hw 8 kk_0 rfl (by decide) mw_286 rfl dX7_nextInLock_1 ?_
  refine lv_iconst (v := 0) hx hb dX7_nextInLock_4 (by decide) ?_
  obtain ⟨u64, q65, hf⟩ := ob hf
  refine cSv (As := [.ref (b + 195), .int 0]) X hw (ctJ7_fill_53178 l E b kdv_195 q65) ⟨mw_636, mw_176, mw_58, mw_177⟩ hd_J7_fill_53178 ⟨Nat.le_of_ble_eq_true rfl, Nat.le_of_ble_eq_true rfl, rfl, rfl⟩ rfl hl.1 rfl (Nat.le_of_ble_eq_true rfl) dX7_nextInLock_5 (fun H locs hw => ?_)
  refine lv_iconst (v := 0) hx hb dX7_nextInLock_8 (by decide) ?_
  refine lv_istore_n (lv' := [(1, .int 0), (0, .ref (b + 0))]) hx hb dX7_nextInLock_9 rfl hl (by decide) rfl (fun ls hl => ?_)
  exact tX7_nextInLock_10 X hr hlk FU 0 u64 hf H locs ls hw (lv_sub hl [1, 0] rfl)

abbrev rmX7_whoseLock : Room := { frames := 2, cells := 0, slots := 0, locals := 46 }
theorem hd_X7_whoseLock : Hd yX7_whoseLock RX7 0 := by decide +kernel
def gX7_whoseLock_58  (k4 : Int32 → Int32 → Mem → Option (Int32)) (k17 : Int32 → Int32 → Int32 → Mem → Option (Int32)) (x1 : Int32) (x2 : Int32) (x3 : Int32) (M : Mem) : Option (Int32) := (some (x3 + 1)).bind fun z91 => k17 x1 x2 z91 M
def gX7_whoseLock_17  (k4 : Int32 → Int32 → Mem → Option (Int32)) : Nat → Int32 → Int32 → Int32 → Mem → Option (Int32)
  | 0, _, _, _, _ => none
  | n + 1, x1, x2, x3, M => (ldA 5 (M 10) x2).bind fun v84 => if v84 < x3 then ((some (x2 + 1)).bind fun z87 => k4 x1 z87 M) else ((gX0_fitAt 9 x2 x3 M).bind fun u88 => if u88 = 0 then (gX7_whoseLock_58 k4 (gX7_whoseLock_17 k4 n) x1 x2 x3 M) else ((some (x1 ||| (1 <<< (x2 &&& 31)))).bind fun z92 => gX7_whoseLock_58 k4 (gX7_whoseLock_17 k4 n) z92 x2 x3 M))
def gX7_whoseLock_4   : Nat → Int32 → Int32 → Mem → Option (Int32)
  | 0, _, _, _ => none
  | n + 1, x1, x2, M => if (M 191 3) ≤ x2 then (some (x1)) else (gX7_whoseLock_17 (gX7_whoseLock_4 n) FU x1 x2 0 M)
def gX7_whoseLock (M : Mem) : Option (Int32) := gX7_whoseLock_4 FU 0 0 M
set_option maxHeartbeats 4000000 in
set_option maxRecDepth 100000 in
theorem tX7_whoseLock_58 {p : Program} {l : Launch} {e : Env} {s : State} {m : MethodId} {args : Array Value} {below : List Frame} {meth : Method} {c : Code} {E : EE} {b : Nat} {TC : Int64} {MM : Mem} {TM : Int64} {res : Int32} (X : CX E p s m args c cX7_whoseLock 4 RX7) (hr : meth.sig.returnType = (some .int)) (hlk : meth.locks = false)   {k4 : Int32 → Int32 → Mem → Option (Int32)} (hk4 : ∀ (x1 : Int32) (x2 : Int32) (M : Mem), k4 x1 x2 M = some res → ∀ (H : Heap) (locs : List Loc) (ls : Array Slot), WW E b M TC MM TM s H locs → lv_has ls 4 [(0, .ref (b + 0)), (1, .int x1), (2, .int x2)] → W p l e rmX7_whoseLock s m args below meth c H locs 0 0 (MQ below (va_Qi (fun x (_ : Unit) => x = res) (fun _ t => PW E b M TC MM TM t) (AA b)) args s 0 0 (AA b)) (F0 m 4 ls [])) {k17 : Int32 → Int32 → Int32 → Mem → Option (Int32)} (hk17 : ∀ (x1 : Int32) (x2 : Int32) (x3 : Int32) (M : Mem), k17 x1 x2 x3 M = some res → ∀ (H : Heap) (locs : List Loc) (ls : Array Slot), WW E b M TC MM TM s H locs → lv_has ls 4 [(0, .ref (b + 0)), (1, .int x1), (2, .int x2), (3, .int x3)] → W p l e rmX7_whoseLock s m args below meth c H locs 0 0 (MQ below (va_Qi (fun x (_ : Unit) => x = res) (fun _ t => PW E b M TC MM TM t) (AA b)) args s 0 0 (AA b)) (F0 m 17 ls [])) : ∀ (x1 : Int32) (x2 : Int32) (x3 : Int32) (M : Mem), gX7_whoseLock_58 k4 k17 x1 x2 x3 M = some res → ∀ (H : Heap) (locs : List Loc) (ls : Array Slot), WW E b M TC MM TM s H locs → lv_has ls 4 [(0, .ref (b + 0)), (1, .int x1), (2, .int x2), (3, .int x3)] → W p l e rmX7_whoseLock s m args below meth c H locs 0 0 (MQ below (va_Qi (fun x (_ : Unit) => x = res) (fun _ t => PW E b M TC MM TM t) (AA b)) args s 0 0 (AA b)) (F0 m 58 ls []) := by
  have hx := X.1
  have hb := X.2.1
  intro x1 x2 x3 M hf H locs ls hw hl
  rw [gX7_whoseLock_58] at hf
  obtain ⟨z91, ez91⟩ : ∃ y : Int32, y = x3 + 1 := ⟨_, rfl⟩
  replace hf := nmb hf ez91
  refine lv_iinc (v := z91) (lv' := [(3, .int z91), (0, .ref (b + 0)), (1, .int x1), (2, .int x2)]) hx hb dX7_whoseLock_58 hl (k := 3) rfl (by rw [ez91]; rfl) (by decide) rfl (fun ls hl => ?_)
  refine lv_goto (tgt := 17) hx hb dX7_whoseLock_61 (by decide) ?_
  exact hk17 x1 x2 z91 M hf H locs ls hw (lv_sub hl [1, 2, 3, 0] rfl)
set_option maxHeartbeats 4000000 in
set_option maxRecDepth 100000 in
theorem tX7_whoseLock_17 {p : Program} {l : Launch} {e : Env} {s : State} {m : MethodId} {args : Array Value} {below : List Frame} {meth : Method} {c : Code} {E : EE} {b : Nat} {TC : Int64} {MM : Mem} {TM : Int64} {res : Int32} (X : CX E p s m args c cX7_whoseLock 4 RX7) (hr : meth.sig.returnType = (some .int)) (hlk : meth.locks = false)   {k4 : Int32 → Int32 → Mem → Option (Int32)} (hk4 : ∀ (x1 : Int32) (x2 : Int32) (M : Mem), k4 x1 x2 M = some res → ∀ (H : Heap) (locs : List Loc) (ls : Array Slot), WW E b M TC MM TM s H locs → lv_has ls 4 [(0, .ref (b + 0)), (1, .int x1), (2, .int x2)] → W p l e rmX7_whoseLock s m args below meth c H locs 0 0 (MQ below (va_Qi (fun x (_ : Unit) => x = res) (fun _ t => PW E b M TC MM TM t) (AA b)) args s 0 0 (AA b)) (F0 m 4 ls [])) : ∀ (n : Nat) (x1 : Int32) (x2 : Int32) (x3 : Int32) (M : Mem), gX7_whoseLock_17 k4 n x1 x2 x3 M = some res → ∀ (H : Heap) (locs : List Loc) (ls : Array Slot), WW E b M TC MM TM s H locs → lv_has ls 4 [(0, .ref (b + 0)), (1, .int x1), (2, .int x2), (3, .int x3)] → W p l e rmX7_whoseLock s m args below meth c H locs 0 0 (MQ below (va_Qi (fun x (_ : Unit) => x = res) (fun _ t => PW E b M TC MM TM t) (AA b)) args s 0 0 (AA b)) (F0 m 17 ls []) := by
  have hx := X.1
  have hb := X.2.1
  intro n
  induction n with
  | zero =>
    intro x1 x2 x3 M hf
    cases (show (none : Option (Int32)) = some res from hf)
  | succ n ih =>
    intro x1 x2 x3 M hf H locs ls hw hl
    rw [gX7_whoseLock_17] at hf
    refine lv_iload_n hx hb dX7_whoseLock_17 rfl (lv_at hl 3 rfl) ?_
    refine lv_aload_n hx hb dX7_whoseLock_18 rfl (lv_at hl 0 rfl) ?_
    refine gt_X7 X hw 2 kk_0 rfl (by decide) mw_280 rfl dX7_whoseLock_19 ?_
    refine gt_X5 X hw 0 kk_8 rfl (by decide) mw_205 rfl dX7_whoseLock_22 ?_
    refine gt_X1 X hw 0 kk_9 rfl (by decide) mw_181 rfl dX7_whoseLock_25 ?_
    refine lv_iload_n hx hb dX7_whoseLock_28 rfl (lv_at hl 2 rfl) ?_
    obtain ⟨v84, q85, hf⟩ := ob hf
    refine aldC X hw kdv_10 q85 dX7_whoseLock_29 ?_
    refine lv_icmp_gt (tgt := 64) hx hb dX7_whoseLock_30 (by decide) (fun c86 => ?_) (fun c86 => ?_)
    · replace hf := (if_pos c86).symm.trans hf
      obtain ⟨z87, ez87⟩ : ∃ y : Int32, y = x2 + 1 := ⟨_, rfl⟩
      replace hf := nmb hf ez87
      refine lv_iinc (v := z87) (lv' := [(2, .int z87), (0, .ref (b + 0)), (1, .int x1), (3, .int x3)]) hx hb dX7_whoseLock_64 hl (k := 2) rfl (by rw [ez87]; rfl) (by decide) rfl (fun ls hl => ?_)
      refine lv_goto (tgt := 4) hx hb dX7_whoseLock_67 (by decide) ?_
      exact hk4 x1 z87 M hf H locs ls hw (lv_sub hl [1, 2, 0] rfl)
    · replace hf := (if_neg c86).symm.trans hf
      refine lv_aload_n hx hb dX7_whoseLock_33 rfl (lv_at hl 0 rfl) ?_
      refine gt_X7 X hw 5 kk_0 rfl (by decide) mw_283 rfl dX7_whoseLock_34 ?_
      refine lv_aload_n hx hb dX7_whoseLock_37 rfl (lv_at hl 0 rfl) ?_
      refine gt_X7 X hw 2 kk_0 rfl (by decide) mw_280 rfl dX7_whoseLock_38 ?_
      refine gt_X5 X hw 0 kk_8 rfl (by decide) mw_205 rfl dX7_whoseLock_41 ?_
      refine lv_iload_n hx hb dX7_whoseLock_44 rfl (lv_at hl 2 rfl) ?_
      refine lv_iload_n hx hb dX7_whoseLock_45 rfl (lv_at hl 3 rfl) ?_
      obtain ⟨u88, q89, hf⟩ := ob hf
      refine cVi (As := [.ref (b + 9), .int x2, .int x3]) X hw (ctX0_fitAt l E b kk_9 q89) ⟨mw_627, mw_628, mw_629, mw_59, mw_630⟩ hd_X0_fitAt ⟨Nat.le_of_ble_eq_true rfl, Nat.le_of_ble_eq_true rfl, rfl, rfl⟩ (kdk kk_181 (by decide)) (ce_X0 E _ _ _ _ kk_181) (show vwCl[0]? = some (RX0, TX0, 5) from rfl) rfl hl.1 rfl (Nat.le_of_ble_eq_true rfl) dX7_whoseLock_46 (fun H locs hw => ?_)
      refine lv_if_eq (tgt := 58) hx hb dX7_whoseLock_49 (by decide) (fun c90 => ?_) (fun c90 => ?_)
      · replace hf := (if_pos c90).symm.trans hf
        exact tX7_whoseLock_58 X hr hlk hk4 ih x1 x2 x3 M hf H locs ls hw (lv_sub hl [0, 1, 2, 3] rfl)
      · replace hf := (if_neg c90).symm.trans hf
        refine lv_iload_n hx hb dX7_whoseLock_52 rfl (lv_at hl 1 rfl) ?_
        refine lv_iconst (v := 1) hx hb dX7_whoseLock_53 (by decide) ?_
        refine lv_iload_n hx hb dX7_whoseLock_54 rfl (lv_at hl 2 rfl) ?_
        refine lv_ishl hx hb dX7_whoseLock_55 ?_
        refine lv_ior hx hb dX7_whoseLock_56 ?_
        refine lv_topi (fun z92 ez92 => ?_)
        replace hf := nmb hf ez92
        refine lv_istore_n (lv' := [(1, .int z92), (0, .ref (b + 0)), (2, .int x2), (3, .int x3)]) hx hb dX7_whoseLock_57 rfl hl (by decide) rfl (fun ls hl => ?_)
        exact tX7_whoseLock_58 X hr hlk hk4 ih z92 x2 x3 M hf H locs ls hw (lv_sub hl [1, 0, 2, 3] rfl)
set_option maxHeartbeats 4000000 in
set_option maxRecDepth 100000 in
theorem tX7_whoseLock_4 {p : Program} {l : Launch} {e : Env} {s : State} {m : MethodId} {args : Array Value} {below : List Frame} {meth : Method} {c : Code} {E : EE} {b : Nat} {TC : Int64} {MM : Mem} {TM : Int64} {res : Int32} (X : CX E p s m args c cX7_whoseLock 4 RX7) (hr : meth.sig.returnType = (some .int)) (hlk : meth.locks = false)    : ∀ (n : Nat) (x1 : Int32) (x2 : Int32) (M : Mem), gX7_whoseLock_4 n x1 x2 M = some res → ∀ (H : Heap) (locs : List Loc) (ls : Array Slot), WW E b M TC MM TM s H locs → lv_has ls 4 [(0, .ref (b + 0)), (1, .int x1), (2, .int x2)] → W p l e rmX7_whoseLock s m args below meth c H locs 0 0 (MQ below (va_Qi (fun x (_ : Unit) => x = res) (fun _ t => PW E b M TC MM TM t) (AA b)) args s 0 0 (AA b)) (F0 m 4 ls []) := by
  have hx := X.1
  have hb := X.2.1
  intro n
  induction n with
  | zero =>
    intro x1 x2 M hf
    cases (show (none : Option (Int32)) = some res from hf)
  | succ n ih =>
    intro x1 x2 M hf H locs ls hw hl
    rw [gX7_whoseLock_4] at hf
    refine lv_iload_n hx hb dX7_whoseLock_4 rfl (lv_at hl 2 rfl) ?_
    refine lv_aload_n hx hb dX7_whoseLock_5 rfl (lv_at hl 0 rfl) ?_
    refine gt_X7 X hw 7 kk_0 rfl (by decide) mw_285 rfl dX7_whoseLock_6 ?_
    refine gt_X6 X hw 3 kk_191 rfl (by decide) mw_114 rfl dX7_whoseLock_9 ?_
    refine lv_icmp_ge (tgt := 70) hx hb dX7_whoseLock_12 (by decide) (fun c83 => ?_) (fun c83 => ?_)
    · replace hf := (if_pos c83).symm.trans hf
      refine lv_iload_n hx hb dX7_whoseLock_70 rfl (lv_at hl 1 rfl) ?_
      replace hf := Option.some.inj hf
      subst hf
      exact eI X hw hr hlk dX7_whoseLock_71
    · replace hf := (if_neg c83).symm.trans hf
      refine lv_iconst (v := 0) hx hb dX7_whoseLock_15 (by decide) ?_
      refine lv_istore_n (lv' := [(3, .int 0), (0, .ref (b + 0)), (1, .int x1), (2, .int x2)]) hx hb dX7_whoseLock_16 rfl hl (by decide) rfl (fun ls hl => ?_)
      exact tX7_whoseLock_17 X hr hlk ih FU x1 x2 0 M hf H locs ls hw (lv_sub hl [1, 2, 3, 0] rfl)
set_option maxHeartbeats 4000000 in
set_option maxRecDepth 100000 in
theorem ctX7_whoseLock (l : Launch) (E : EE) (b : Nat) {TC : Int64} {MM : Mem} {TM : Int64} {M : Mem} {res : Int32}  (hf : gX7_whoseLock M = some res) : MetI l E b yX7_whoseLock (.code yX7_whoseLock cX7_whoseLock 4 (some .int)) rmX7_whoseLock [.ref (b + 0)] M TC MM TM res M TC MM TM := by
  refine Met.ofW (cc := cX7_whoseLock) (maxL := 4) (ret := (some .int)) (by decide) rfl ?_
  intro p e s m args below meth c s₁ B hml hv
  obtain ⟨rfl, hP, hK⟩ := hv
  have hx := B.exec
  have hb := B.bytes
  have X : CX E p s m _ c cX7_whoseLock 4 RX7 := ⟨hx, hb, hml, findClass_of_methodNamed B.named, fun w h => atoms_spec (ws := _ :: wt) B.pre w (List.mem_cons_of_mem _ h), hK⟩
  have hr := B.returns
  have hlk := B.notSynchronized
  have hw : WW E b M TC MM TM s s.heap [] := ⟨hP, va_S.rf⟩
  have hl := lv_entry ([.ref (b + 0)]) (n := 4) (Nat.le_of_ble_eq_true rfl)
  rw [lg_entry_eq]
  generalize (lg_sl ([.ref (b + 0)]) ++ List.replicate (4 - (lg_sl ([.ref (b + 0)])).length) Slot.unset).toArray = ls at hl ⊢
  have hl : lv_has ls 4 [(0, .ref (b + 0))] := hl
  obtain ⟨H, hH⟩ : ∃ H, H = s.heap := ⟨_, rfl⟩
  obtain ⟨locs, hL⟩ : ∃ L : List Loc, L = [] := ⟨_, rfl⟩
  rw [← hH, ← hL] at hw
  suffices hg : W p l e rmX7_whoseLock s m _ below meth c H locs 0 0 (MQ below (va_Qi (fun x (_ : Unit) => x = res) (fun _ t => PW E b M TC MM TM t) (AA b)) _ s 0 0 (AA b)) (F0 m 0 ls []) by rw [hH, hL] at hg; exact hg
  clear hH hL
  rw [gX7_whoseLock] at hf
  refine lv_iconst (v := 0) hx hb dX7_whoseLock_0 (by decide) ?_
  refine lv_istore_n (lv' := [(1, .int 0), (0, .ref (b + 0))]) hx hb dX7_whoseLock_1 rfl hl (by decide) rfl (fun ls hl => ?_)
  refine lv_iconst (v := 0) hx hb dX7_whoseLock_2 (by decide) ?_
  refine lv_istore_n (lv' := [(2, .int 0), (1, .int 0), (0, .ref (b + 0))]) hx hb dX7_whoseLock_3 rfl hl (by decide) rfl (fun ls hl => ?_)
  exact tX7_whoseLock_4 X hr hlk FU 0 0 M hf H locs ls hw (lv_sub hl [2, 1, 0] rfl)

abbrev rmX7_lock : Room := { frames := 3, cells := 0, slots := 0, locals := 69 }
theorem hd_X7_lock : Hd yX7_lock RX7 1 := by decide +kernel
def gX7_lock (x1 : Int32) (M : Mem) : Option (Int32 × Mem) := if x1 = 0 then ((gX7_whoseLock M).bind fun u94 => some (u94, M)) else (if x1 = 1 then ((gX7_nextInLock M).bind fun u97 => some (u97.1, u97.2)) else (some ((-1), M)))
set_option maxHeartbeats 4000000 in
set_option maxRecDepth 100000 in
theorem ctX7_lock (l : Launch) (E : EE) (b : Nat) {TC : Int64} {MM : Mem} {TM : Int64} {x1 : Int32} {M : Mem} {res : Int32 × Mem}  (hf : gX7_lock x1 M = some res) : MetI l E b yX7_lock (.code yX7_lock cX7_lock 2 (some .int)) rmX7_lock [.ref (b + 0), .int x1] M TC MM TM res.1 res.2 TC MM TM := by
  refine Met.ofW (cc := cX7_lock) (maxL := 2) (ret := (some .int)) (by decide) rfl ?_
  intro p e s m args below meth c s₁ B hml hv
  obtain ⟨rfl, hP, hK⟩ := hv
  have hx := B.exec
  have hb := B.bytes
  have X : CX E p s m _ c cX7_lock 2 RX7 := ⟨hx, hb, hml, findClass_of_methodNamed B.named, fun w h => atoms_spec (ws := _ :: wt) B.pre w (List.mem_cons_of_mem _ h), hK⟩
  have hr := B.returns
  have hlk := B.notSynchronized
  have hw : WW E b M TC MM TM s s.heap [] := ⟨hP, va_S.rf⟩
  have hl := lv_entry ([.ref (b + 0), .int x1]) (n := 2) (Nat.le_of_ble_eq_true rfl)
  rw [lg_entry_eq]
  generalize (lg_sl ([.ref (b + 0), .int x1]) ++ List.replicate (2 - (lg_sl ([.ref (b + 0), .int x1])).length) Slot.unset).toArray = ls at hl ⊢
  have hl : lv_has ls 2 [(0, .ref (b + 0)), (1, .int x1)] := hl
  obtain ⟨H, hH⟩ : ∃ H, H = s.heap := ⟨_, rfl⟩
  obtain ⟨locs, hL⟩ : ∃ L : List Loc, L = [] := ⟨_, rfl⟩
  rw [← hH, ← hL] at hw
  suffices hg : W p l e rmX7_lock s m _ below meth c H locs 0 0 (MQ below (va_Qi (fun x (_ : Unit) => x = res.1) (fun _ t => PW E b res.2 TC MM TM t) (AA b)) _ s 0 0 (AA b)) (F0 m 0 ls []) by rw [hH, hL] at hg; exact hg
  clear hH hL
  rw [gX7_lock] at hf
  refine lv_iload_n hx hb dX7_lock_0 rfl (lv_at hl 1 rfl) ?_
  by_cases c93 : x1 = 0
  · replace hf := (if_pos c93).symm.trans hf
    refine lv_lookup (tgt := 28) (off := 27) hx hb dX7_lock_1 (by decide) (by rw [c93]; rfl) (by decide) ?_
    refine lv_aload_n hx hb dX7_lock_28 rfl (lv_at hl 0 rfl) ?_
    obtain ⟨u94, q95, hf⟩ := ob hf
    refine cVi (As := []) X hw (ctX7_whoseLock l E b  q95) ⟨mw_623, mw_625, mw_20, mw_52, mw_626⟩ hd_X7_whoseLock ⟨Nat.le_of_ble_eq_true rfl, Nat.le_of_ble_eq_true rfl, rfl, rfl⟩ (kdk kk_0 (by decide)) (ce_X7 E _ _ _ _ kk_0) (show vwCl[7]? = some (RX7, TX7, 11) from rfl) rfl hl.1 rfl (Nat.le_of_ble_eq_true rfl) dX7_lock_29 (fun H locs hw => ?_)
    replace hf := Option.some.inj hf
    subst hf
    exact eI X hw hr hlk dX7_lock_32
  · replace hf := (if_neg c93).symm.trans hf
    by_cases c96 : x1 = 1
    · replace hf := (if_pos c96).symm.trans hf
      refine lv_lookup (tgt := 33) (off := 32) hx hb dX7_lock_1 (by decide) (by rw [c96]; rfl) (by decide) ?_
      refine lv_aload_n hx hb dX7_lock_33 rfl (lv_at hl 0 rfl) ?_
      obtain ⟨u97, q98, hf⟩ := ob hf
      refine cVi (As := []) X hw (ctX7_nextInLock l E b  q98) ⟨mw_632, mw_634, mw_21, mw_52, mw_635⟩ hd_X7_nextInLock ⟨Nat.le_of_ble_eq_true rfl, Nat.le_of_ble_eq_true rfl, rfl, rfl⟩ (kdk kk_0 (by decide)) (ce_X7 E _ _ _ _ kk_0) (show vwCl[7]? = some (RX7, TX7, 11) from rfl) rfl hl.1 rfl (Nat.le_of_ble_eq_true rfl) dX7_lock_34 (fun H locs hw => ?_)
      replace hf := Option.some.inj hf
      subst hf
      exact eI X hw hr hlk dX7_lock_37
    · replace hf := (if_neg c96).symm.trans hf
      have nc93 : x1.toInt ≠ 0 := fun q => c93 (Int32.toInt_inj.mp (q.trans (by decide)))
      have nc96 : x1.toInt ≠ 1 := fun q => c96 (Int32.toInt_inj.mp (q.trans (by decide)))
      refine lv_lookup (tgt := 38) (off := 37) hx hb dX7_lock_1 (by decide) (by simp [Op.lookupswitch.offset, List.find?, beq_false_of_ne nc93, beq_false_of_ne (Ne.symm nc93), nc93, Ne.symm nc93, beq_false_of_ne nc96, beq_false_of_ne (Ne.symm nc96), nc96, Ne.symm nc96]) (by decide) ?_
      refine lv_iconst (v := (-1)) hx hb dX7_lock_38 (by decide) ?_
      replace hf := Option.some.inj hf
      subst hf
      exact eI X hw hr hlk dX7_lock_39

abbrev rmX7_hears : Room := { frames := 2, cells := 0, slots := 0, locals := 42 }
theorem hd_X7_hears : Hd yX7_hears RX7 2 := by decide +kernel
def gX7_hears (x1 : Int32) (x2 : Int32) (M : Mem) : Option (Int32 × Mem) := (gX7_isThought x1).bind fun u99 => if u99 = 0 then (some ((-1), M)) else ((gX7_within x2 0 60).bind fun u102 => if u102 = 0 then (some ((-1), M)) else (if (M 181 4) < 4 then ((stA 4 M 183 (M 181 4) x1).bind fun M106 => (stA 4 M106 184 (M106 181 4) x2).bind fun M108 => (some (us M108 181 4 ((M108 181 4) + 1))).bind fun M110 => some (M110 181 4, M110)) else (some ((-3), M))))
set_option maxHeartbeats 4000000 in
set_option maxRecDepth 100000 in
theorem ctX7_hears (l : Launch) (E : EE) (b : Nat) {TC : Int64} {MM : Mem} {TM : Int64} {x1 : Int32} {x2 : Int32} {M : Mem} {res : Int32 × Mem}  (hf : gX7_hears x1 x2 M = some res) : MetI l E b yX7_hears (.code yX7_hears cX7_hears 3 (some .int)) rmX7_hears [.ref (b + 0), .int x1, .int x2] M TC MM TM res.1 res.2 TC MM TM := by
  refine Met.ofW (cc := cX7_hears) (maxL := 3) (ret := (some .int)) (by decide) rfl ?_
  intro p e s m args below meth c s₁ B hml hv
  obtain ⟨rfl, hP, hK⟩ := hv
  have hx := B.exec
  have hb := B.bytes
  have X : CX E p s m _ c cX7_hears 3 RX7 := ⟨hx, hb, hml, findClass_of_methodNamed B.named, fun w h => atoms_spec (ws := _ :: wt) B.pre w (List.mem_cons_of_mem _ h), hK⟩
  have hr := B.returns
  have hlk := B.notSynchronized
  have hw : WW E b M TC MM TM s s.heap [] := ⟨hP, va_S.rf⟩
  have hl := lv_entry ([.ref (b + 0), .int x1, .int x2]) (n := 3) (Nat.le_of_ble_eq_true rfl)
  rw [lg_entry_eq]
  generalize (lg_sl ([.ref (b + 0), .int x1, .int x2]) ++ List.replicate (3 - (lg_sl ([.ref (b + 0), .int x1, .int x2])).length) Slot.unset).toArray = ls at hl ⊢
  have hl : lv_has ls 3 [(0, .ref (b + 0)), (1, .int x1), (2, .int x2)] := hl
  obtain ⟨H, hH⟩ : ∃ H, H = s.heap := ⟨_, rfl⟩
  obtain ⟨locs, hL⟩ : ∃ L : List Loc, L = [] := ⟨_, rfl⟩
  rw [← hH, ← hL] at hw
  suffices hg : W p l e rmX7_hears s m _ below meth c H locs 0 0 (MQ below (va_Qi (fun x (_ : Unit) => x = res.1) (fun _ t => PW E b res.2 TC MM TM t) (AA b)) _ s 0 0 (AA b)) (F0 m 0 ls []) by rw [hH, hL] at hg; exact hg
  clear hH hL
  rw [gX7_hears] at hf
  refine lv_iload_n hx hb dX7_hears_0 rfl (lv_at hl 1 rfl) ?_
  obtain ⟨u99, q100, hf⟩ := ob hf
  refine cSi (As := [.int x1]) X hw (ctX7_isThought l E b  q100) ⟨mw_432, mw_433, mw_52, mw_434⟩ hd_X7_isThought ⟨Nat.le_of_ble_eq_true rfl, Nat.le_of_ble_eq_true rfl, rfl, rfl⟩ rfl hl.1 rfl (Nat.le_of_ble_eq_true rfl) dX7_hears_1 (fun H locs hw => ?_)
  refine lv_if_eq (tgt := 17) hx hb dX7_hears_4 (by decide) (fun c101 => ?_) (fun c101 => ?_)
  · replace hf := (if_pos c101).symm.trans hf
    refine lv_iconst (v := (-1)) hx hb dX7_hears_17 (by decide) ?_
    replace hf := Option.some.inj hf
    subst hf
    exact eI X hw hr hlk dX7_hears_18
  · replace hf := (if_neg c101).symm.trans hf
    refine lv_iload_n hx hb dX7_hears_7 rfl (lv_at hl 2 rfl) ?_
    refine lv_iconst (v := 0) hx hb dX7_hears_8 (by decide) ?_
    refine lv_bipush (v := 60) hx hb dX7_hears_9 (by decide) ?_
    obtain ⟨u102, q103, hf⟩ := ob hf
    refine cSi (As := [.int x2, .int 0, .int 60]) X hw (ctX7_within l E b  q103) ⟨mw_316, mw_317, mw_52, mw_318⟩ hd_X7_within ⟨Nat.le_of_ble_eq_true rfl, Nat.le_of_ble_eq_true rfl, rfl, rfl⟩ rfl hl.1 rfl (Nat.le_of_ble_eq_true rfl) dX7_hears_11 (fun H locs hw => ?_)
    refine lv_if_ne (tgt := 19) hx hb dX7_hears_14 (by decide) (fun c104 => ?_) (fun c104 => ?_)
    · replace hf := (if_neg c104).symm.trans hf
      refine lv_aload_n hx hb dX7_hears_19 rfl (lv_at hl 0 rfl) ?_
      refine gt_X7 X hw 5 kk_0 rfl (by decide) mw_283 rfl dX7_hears_20 ?_
      refine gt_X0 X hw 4 kk_181 rfl (by decide) mw_232 rfl dX7_hears_23 ?_
      refine lv_iconst (v := 4) hx hb dX7_hears_26 (by decide) ?_
      refine lv_icmp_lt (tgt := 33) hx hb dX7_hears_27 (by decide) (fun c105 => ?_) (fun c105 => ?_)
      · replace hf := (if_pos c105).symm.trans hf
        refine lv_aload_n hx hb dX7_hears_33 rfl (lv_at hl 0 rfl) ?_
        refine gt_X7 X hw 5 kk_0 rfl (by decide) mw_283 rfl dX7_hears_34 ?_
        refine gt_X0 X hw 1 kk_181 rfl (by decide) mw_226 rfl dX7_hears_37 ?_
        refine lv_aload_n hx hb dX7_hears_40 rfl (lv_at hl 0 rfl) ?_
        refine gt_X7 X hw 5 kk_0 rfl (by decide) mw_283 rfl dX7_hears_41 ?_
        refine gt_X0 X hw 4 kk_181 rfl (by decide) mw_232 rfl dX7_hears_44 ?_
        refine lv_iload_n hx hb dX7_hears_47 rfl (lv_at hl 1 rfl) ?_
        obtain ⟨M106, q107, hf⟩ := ob hf
        refine astC X hw kdv_183 q107 dX7_hears_48 (fun H locs hw => ?_)
        refine lv_aload_n hx hb dX7_hears_49 rfl (lv_at hl 0 rfl) ?_
        refine gt_X7 X hw 5 kk_0 rfl (by decide) mw_283 rfl dX7_hears_50 ?_
        refine gt_X0 X hw 2 kk_181 rfl (by decide) mw_228 rfl dX7_hears_53 ?_
        refine lv_aload_n hx hb dX7_hears_56 rfl (lv_at hl 0 rfl) ?_
        refine gt_X7 X hw 5 kk_0 rfl (by decide) mw_283 rfl dX7_hears_57 ?_
        refine gt_X0 X hw 4 kk_181 rfl (by decide) mw_232 rfl dX7_hears_60 ?_
        refine lv_iload_n hx hb dX7_hears_63 rfl (lv_at hl 2 rfl) ?_
        obtain ⟨M108, q109, hf⟩ := ob hf
        refine astC X hw kdv_184 q109 dX7_hears_64 (fun H locs hw => ?_)
        refine lv_aload_n hx hb dX7_hears_65 rfl (lv_at hl 0 rfl) ?_
        refine gt_X7 X hw 5 kk_0 rfl (by decide) mw_283 rfl dX7_hears_66 ?_
        refine lv_dup hx hb dX7_hears_69 rfl ?_
        refine gt_X0 X hw 4 kk_181 rfl (by decide) mw_232 rfl dX7_hears_70 ?_
        refine lv_iconst (v := 1) hx hb dX7_hears_73 (by decide) ?_
        refine lv_iadd hx hb dX7_hears_74 ?_
        obtain ⟨M110, eM110, hf⟩ := ob hf
        refine pt_X0_4 X hw kk_181 mw_232 dX7_hears_75 (fun H locs hw => ?_)
        rw [Option.some.inj eM110] at hw
        refine lv_aload_n hx hb dX7_hears_78 rfl (lv_at hl 0 rfl) ?_
        refine gt_X7 X hw 5 kk_0 rfl (by decide) mw_283 rfl dX7_hears_79 ?_
        refine gt_X0 X hw 4 kk_181 rfl (by decide) mw_232 rfl dX7_hears_82 ?_
        replace hf := Option.some.inj hf
        subst hf
        exact eI X hw hr hlk dX7_hears_85
      · replace hf := (if_neg c105).symm.trans hf
        refine lv_bipush (v := (-3)) hx hb dX7_hears_30 (by decide) ?_
        replace hf := Option.some.inj hf
        subst hf
        exact eI X hw hr hlk dX7_hears_32
    · replace hf := (if_pos c104).symm.trans hf
      refine lv_iconst (v := (-1)) hx hb dX7_hears_17 (by decide) ?_
      replace hf := Option.some.inj hf
      subst hf
      exact eI X hw hr hlk dX7_hears_18

abbrev rmX7_allHeardIsSo : Room := { frames := 1, cells := 0, slots := 0, locals := 21 }
theorem hd_X7_allHeardIsSo : Hd yX7_allHeardIsSo RX7 1 := by decide +kernel
def gX7_allHeardIsSo_53  (k2 : Int32 → Int32 → Mem → Option (Int32)) (k18 : Int32 → Int32 → Int32 → Int32 → Mem → Option (Int32)) (x1 : Int32) (x2 : Int32) (x3 : Int32) (x4 : Int32) (M : Mem) : Option (Int32) := (some (x4 + 1)).bind fun z120 => k18 x1 x2 x3 z120 M
def gX7_allHeardIsSo_18  (k2 : Int32 → Int32 → Mem → Option (Int32)) : Nat → Int32 → Int32 → Int32 → Int32 → Mem → Option (Int32)
  | 0, _, _, _, _, _ => none
  | n + 1, x1, x2, x3, x4, M => if (M 191 3) ≤ x4 then ((ldA 4 (M 184) x2).bind fun v113 => if x3 = v113 then ((some (x2 + 1)).bind fun z116 => k2 x1 z116 M) else (some (0))) else ((gX7_has x1 x4).bind fun u117 => if u117 = 0 then (gX7_allHeardIsSo_53 k2 (gX7_allHeardIsSo_18 k2 n) x1 x2 x3 x4 M) else ((ldA 20 (M 196) ((x2 * 5) + x4)).bind fun v121 => (some (x3 + v121)).bind fun z123 => gX7_allHeardIsSo_53 k2 (gX7_allHeardIsSo_18 k2 n) x1 x2 z123 x4 M))
def gX7_allHeardIsSo_2   : Nat → Int32 → Int32 → Mem → Option (Int32)
  | 0, _, _, _ => none
  | n + 1, x1, x2, M => if (M 181 4) ≤ x2 then (some (1)) else (gX7_allHeardIsSo_18 (gX7_allHeardIsSo_2 n) FU x1 x2 0 0 M)
def gX7_allHeardIsSo (x1 : Int32) (M : Mem) : Option (Int32) := gX7_allHeardIsSo_2 FU x1 0 M
set_option maxHeartbeats 4000000 in
set_option maxRecDepth 100000 in
theorem tX7_allHeardIsSo_53 {p : Program} {l : Launch} {e : Env} {s : State} {m : MethodId} {args : Array Value} {below : List Frame} {meth : Method} {c : Code} {E : EE} {b : Nat} {TC : Int64} {MM : Mem} {TM : Int64} {res : Int32} (X : CX E p s m args c cX7_allHeardIsSo 5 RX7) (hr : meth.sig.returnType = (some .boolean)) (hlk : meth.locks = false)   {k2 : Int32 → Int32 → Mem → Option (Int32)} (hk2 : ∀ (x1 : Int32) (x2 : Int32) (M : Mem), k2 x1 x2 M = some res → ∀ (H : Heap) (locs : List Loc) (ls : Array Slot), WW E b M TC MM TM s H locs → lv_has ls 5 [(0, .ref (b + 0)), (1, .int x1), (2, .int x2)] → W p l e rmX7_allHeardIsSo s m args below meth c H locs 0 0 (MQ below (va_Qi (fun x (_ : Unit) => x = res) (fun _ t => PW E b M TC MM TM t) (AA b)) args s 0 0 (AA b)) (F0 m 2 ls [])) {k18 : Int32 → Int32 → Int32 → Int32 → Mem → Option (Int32)} (hk18 : ∀ (x1 : Int32) (x2 : Int32) (x3 : Int32) (x4 : Int32) (M : Mem), k18 x1 x2 x3 x4 M = some res → ∀ (H : Heap) (locs : List Loc) (ls : Array Slot), WW E b M TC MM TM s H locs → lv_has ls 5 [(0, .ref (b + 0)), (1, .int x1), (2, .int x2), (3, .int x3), (4, .int x4)] → W p l e rmX7_allHeardIsSo s m args below meth c H locs 0 0 (MQ below (va_Qi (fun x (_ : Unit) => x = res) (fun _ t => PW E b M TC MM TM t) (AA b)) args s 0 0 (AA b)) (F0 m 18 ls [])) : ∀ (x1 : Int32) (x2 : Int32) (x3 : Int32) (x4 : Int32) (M : Mem), gX7_allHeardIsSo_53 k2 k18 x1 x2 x3 x4 M = some res → ∀ (H : Heap) (locs : List Loc) (ls : Array Slot), WW E b M TC MM TM s H locs → lv_has ls 5 [(0, .ref (b + 0)), (1, .int x1), (2, .int x2), (3, .int x3), (4, .int x4)] → W p l e rmX7_allHeardIsSo s m args below meth c H locs 0 0 (MQ below (va_Qi (fun x (_ : Unit) => x = res) (fun _ t => PW E b M TC MM TM t) (AA b)) args s 0 0 (AA b)) (F0 m 53 ls []) := by
  have hx := X.1
  have hb := X.2.1
  intro x1 x2 x3 x4 M hf H locs ls hw hl
  rw [gX7_allHeardIsSo_53] at hf
  obtain ⟨z120, ez120⟩ : ∃ y : Int32, y = x4 + 1 := ⟨_, rfl⟩
  replace hf := nmb hf ez120
  refine lv_iinc (v := z120) (lv' := [(4, .int z120), (0, .ref (b + 0)), (1, .int x1), (2, .int x2), (3, .int x3)]) hx hb dX7_allHeardIsSo_53 hl (k := 4) rfl (by rw [ez120]; rfl) (by decide) rfl (fun ls hl => ?_)
  refine lv_goto (tgt := 18) hx hb dX7_allHeardIsSo_56 (by decide) ?_
  exact hk18 x1 x2 x3 z120 M hf H locs ls hw (lv_sub hl [1, 2, 3, 4, 0] rfl)
set_option maxHeartbeats 4000000 in
set_option maxRecDepth 100000 in
theorem tX7_allHeardIsSo_18 {p : Program} {l : Launch} {e : Env} {s : State} {m : MethodId} {args : Array Value} {below : List Frame} {meth : Method} {c : Code} {E : EE} {b : Nat} {TC : Int64} {MM : Mem} {TM : Int64} {res : Int32} (X : CX E p s m args c cX7_allHeardIsSo 5 RX7) (hr : meth.sig.returnType = (some .boolean)) (hlk : meth.locks = false)   {k2 : Int32 → Int32 → Mem → Option (Int32)} (hk2 : ∀ (x1 : Int32) (x2 : Int32) (M : Mem), k2 x1 x2 M = some res → ∀ (H : Heap) (locs : List Loc) (ls : Array Slot), WW E b M TC MM TM s H locs → lv_has ls 5 [(0, .ref (b + 0)), (1, .int x1), (2, .int x2)] → W p l e rmX7_allHeardIsSo s m args below meth c H locs 0 0 (MQ below (va_Qi (fun x (_ : Unit) => x = res) (fun _ t => PW E b M TC MM TM t) (AA b)) args s 0 0 (AA b)) (F0 m 2 ls [])) : ∀ (n : Nat) (x1 : Int32) (x2 : Int32) (x3 : Int32) (x4 : Int32) (M : Mem), gX7_allHeardIsSo_18 k2 n x1 x2 x3 x4 M = some res → ∀ (H : Heap) (locs : List Loc) (ls : Array Slot), WW E b M TC MM TM s H locs → lv_has ls 5 [(0, .ref (b + 0)), (1, .int x1), (2, .int x2), (3, .int x3), (4, .int x4)] → W p l e rmX7_allHeardIsSo s m args below meth c H locs 0 0 (MQ below (va_Qi (fun x (_ : Unit) => x = res) (fun _ t => PW E b M TC MM TM t) (AA b)) args s 0 0 (AA b)) (F0 m 18 ls []) := by
  have hx := X.1
  have hb := X.2.1
  intro n
  induction n with
  | zero =>
    intro x1 x2 x3 x4 M hf
    cases (show (none : Option (Int32)) = some res from hf)
  | succ n ih =>
    intro x1 x2 x3 x4 M hf H locs ls hw hl
    rw [gX7_allHeardIsSo_18] at hf
    refine lv_iload hx hb dX7_allHeardIsSo_18 (lv_at hl 4 rfl) ?_
    refine lv_aload_n hx hb dX7_allHeardIsSo_20 rfl (lv_at hl 0 rfl) ?_
    refine gt_X7 X hw 7 kk_0 rfl (by decide) mw_285 rfl dX7_allHeardIsSo_21 ?_
    refine gt_X6 X hw 3 kk_191 rfl (by decide) mw_114 rfl dX7_allHeardIsSo_24 ?_
    refine lv_icmp_ge (tgt := 59) hx hb dX7_allHeardIsSo_27 (by decide) (fun c112 => ?_) (fun c112 => ?_)
    · replace hf := (if_pos c112).symm.trans hf
      refine lv_iload_n hx hb dX7_allHeardIsSo_59 rfl (lv_at hl 3 rfl) ?_
      refine lv_aload_n hx hb dX7_allHeardIsSo_60 rfl (lv_at hl 0 rfl) ?_
      refine gt_X7 X hw 5 kk_0 rfl (by decide) mw_283 rfl dX7_allHeardIsSo_61 ?_
      refine gt_X0 X hw 2 kk_181 rfl (by decide) mw_228 rfl dX7_allHeardIsSo_64 ?_
      refine lv_iload_n hx hb dX7_allHeardIsSo_67 rfl (lv_at hl 2 rfl) ?_
      obtain ⟨v113, q114, hf⟩ := ob hf
      refine aldC X hw kdv_184 q114 dX7_allHeardIsSo_68 ?_
      refine lv_icmp_eq (tgt := 74) hx hb dX7_allHeardIsSo_69 (by decide) (fun c115 => ?_) (fun c115 => ?_)
      · replace hf := (if_pos c115).symm.trans hf
        obtain ⟨z116, ez116⟩ : ∃ y : Int32, y = x2 + 1 := ⟨_, rfl⟩
        replace hf := nmb hf ez116
        refine lv_iinc (v := z116) (lv' := [(2, .int z116), (0, .ref (b + 0)), (1, .int x1), (3, .int x3), (4, .int x4)]) hx hb dX7_allHeardIsSo_74 hl (k := 2) rfl (by rw [ez116]; rfl) (by decide) rfl (fun ls hl => ?_)
        refine lv_goto (tgt := 2) hx hb dX7_allHeardIsSo_77 (by decide) ?_
        exact hk2 x1 z116 M hf H locs ls hw (lv_sub hl [1, 2, 0] rfl)
      · replace hf := (if_neg c115).symm.trans hf
        refine lv_iconst (v := 0) hx hb dX7_allHeardIsSo_72 (by decide) ?_
        replace hf := Option.some.inj hf
        subst hf
        exact eZ X hw (show (0 : Int32) = 0 ∨ (0 : Int32) = 1 by decide) hr hlk dX7_allHeardIsSo_73
    · replace hf := (if_neg c112).symm.trans hf
      refine lv_iload_n hx hb dX7_allHeardIsSo_30 rfl (lv_at hl 1 rfl) ?_
      refine lv_iload hx hb dX7_allHeardIsSo_31 (lv_at hl 4 rfl) ?_
      obtain ⟨u117, q118, hf⟩ := ob hf
      refine cSi (As := [.int x1, .int x4]) X hw (ctX7_has l E b  q118) ⟨mw_599, mw_600, mw_52, mw_601⟩ hd_X7_has ⟨Nat.le_of_ble_eq_true rfl, Nat.le_of_ble_eq_true rfl, rfl, rfl⟩ rfl hl.1 rfl (Nat.le_of_ble_eq_true rfl) dX7_allHeardIsSo_33 (fun H locs hw => ?_)
      refine lv_if_eq (tgt := 53) hx hb dX7_allHeardIsSo_36 (by decide) (fun c119 => ?_) (fun c119 => ?_)
      · replace hf := (if_pos c119).symm.trans hf
        exact tX7_allHeardIsSo_53 X hr hlk hk2 ih x1 x2 x3 x4 M hf H locs ls hw (lv_sub hl [0, 1, 2, 3, 4] rfl)
      · replace hf := (if_neg c119).symm.trans hf
        refine lv_iload_n hx hb dX7_allHeardIsSo_39 rfl (lv_at hl 3 rfl) ?_
        refine lv_aload_n hx hb dX7_allHeardIsSo_40 rfl (lv_at hl 0 rfl) ?_
        refine gt_X7 X hw 9 kk_0 rfl (by decide) mw_287 rfl dX7_allHeardIsSo_41 ?_
        refine lv_iload_n hx hb dX7_allHeardIsSo_44 rfl (lv_at hl 2 rfl) ?_
        refine lv_iconst (v := 5) hx hb dX7_allHeardIsSo_45 (by decide) ?_
        refine lv_imul hx hb dX7_allHeardIsSo_46 ?_
        refine lv_iload hx hb dX7_allHeardIsSo_47 (lv_at hl 4 rfl) ?_
        refine lv_iadd hx hb dX7_allHeardIsSo_49 ?_
        obtain ⟨v121, q122, hf⟩ := ob hf
        refine aldC X hw kdv_196 q122 dX7_allHeardIsSo_50 ?_
        refine lv_iadd hx hb dX7_allHeardIsSo_51 ?_
        refine lv_topi (fun z123 ez123 => ?_)
        replace hf := nmb hf ez123
        refine lv_istore_n (lv' := [(3, .int z123), (0, .ref (b + 0)), (1, .int x1), (2, .int x2), (4, .int x4)]) hx hb dX7_allHeardIsSo_52 rfl hl (by decide) rfl (fun ls hl => ?_)
        exact tX7_allHeardIsSo_53 X hr hlk hk2 ih x1 x2 z123 x4 M hf H locs ls hw (lv_sub hl [1, 2, 3, 0, 4] rfl)
set_option maxHeartbeats 4000000 in
set_option maxRecDepth 100000 in
theorem tX7_allHeardIsSo_2 {p : Program} {l : Launch} {e : Env} {s : State} {m : MethodId} {args : Array Value} {below : List Frame} {meth : Method} {c : Code} {E : EE} {b : Nat} {TC : Int64} {MM : Mem} {TM : Int64} {res : Int32} (X : CX E p s m args c cX7_allHeardIsSo 5 RX7) (hr : meth.sig.returnType = (some .boolean)) (hlk : meth.locks = false)    : ∀ (n : Nat) (x1 : Int32) (x2 : Int32) (M : Mem), gX7_allHeardIsSo_2 n x1 x2 M = some res → ∀ (H : Heap) (locs : List Loc) (ls : Array Slot), WW E b M TC MM TM s H locs → lv_has ls 5 [(0, .ref (b + 0)), (1, .int x1), (2, .int x2)] → W p l e rmX7_allHeardIsSo s m args below meth c H locs 0 0 (MQ below (va_Qi (fun x (_ : Unit) => x = res) (fun _ t => PW E b M TC MM TM t) (AA b)) args s 0 0 (AA b)) (F0 m 2 ls []) := by
  have hx := X.1
  have hb := X.2.1
  intro n
  induction n with
  | zero =>
    intro x1 x2 M hf
    cases (show (none : Option (Int32)) = some res from hf)
  | succ n ih =>
    intro x1 x2 M hf H locs ls hw hl
    rw [gX7_allHeardIsSo_2] at hf
    refine lv_iload_n hx hb dX7_allHeardIsSo_2 rfl (lv_at hl 2 rfl) ?_
    refine lv_aload_n hx hb dX7_allHeardIsSo_3 rfl (lv_at hl 0 rfl) ?_
    refine gt_X7 X hw 5 kk_0 rfl (by decide) mw_283 rfl dX7_allHeardIsSo_4 ?_
    refine gt_X0 X hw 4 kk_181 rfl (by decide) mw_232 rfl dX7_allHeardIsSo_7 ?_
    refine lv_icmp_ge (tgt := 80) hx hb dX7_allHeardIsSo_10 (by decide) (fun c111 => ?_) (fun c111 => ?_)
    · replace hf := (if_pos c111).symm.trans hf
      refine lv_iconst (v := 1) hx hb dX7_allHeardIsSo_80 (by decide) ?_
      replace hf := Option.some.inj hf
      subst hf
      exact eZ X hw (show (1 : Int32) = 0 ∨ (1 : Int32) = 1 by decide) hr hlk dX7_allHeardIsSo_81
    · replace hf := (if_neg c111).symm.trans hf
      refine lv_iconst (v := 0) hx hb dX7_allHeardIsSo_13 (by decide) ?_
      refine lv_istore_n (lv' := [(3, .int 0), (0, .ref (b + 0)), (1, .int x1), (2, .int x2)]) hx hb dX7_allHeardIsSo_14 rfl hl (by decide) rfl (fun ls hl => ?_)
      refine lv_iconst (v := 0) hx hb dX7_allHeardIsSo_15 (by decide) ?_
      refine lv_istore (lv' := [(4, .int 0), (3, .int 0), (0, .ref (b + 0)), (1, .int x1), (2, .int x2)]) hx hb dX7_allHeardIsSo_16 hl (by decide) rfl (fun ls hl => ?_)
      exact tX7_allHeardIsSo_18 X hr hlk ih FU x1 x2 0 0 M hf H locs ls hw (lv_sub hl [2, 3, 4, 1, 0] rfl)
set_option maxHeartbeats 4000000 in
set_option maxRecDepth 100000 in
theorem ctX7_allHeardIsSo (l : Launch) (E : EE) (b : Nat) {TC : Int64} {MM : Mem} {TM : Int64} {x1 : Int32} {M : Mem} {res : Int32}  (hf : gX7_allHeardIsSo x1 M = some res) : MetI l E b yX7_allHeardIsSo (.code yX7_allHeardIsSo cX7_allHeardIsSo 5 (some .boolean)) rmX7_allHeardIsSo [.ref (b + 0), .int x1] M TC MM TM res M TC MM TM := by
  refine Met.ofW (cc := cX7_allHeardIsSo) (maxL := 5) (ret := (some .boolean)) (by decide) rfl ?_
  intro p e s m args below meth c s₁ B hml hv
  obtain ⟨rfl, hP, hK⟩ := hv
  have hx := B.exec
  have hb := B.bytes
  have X : CX E p s m _ c cX7_allHeardIsSo 5 RX7 := ⟨hx, hb, hml, findClass_of_methodNamed B.named, fun w h => atoms_spec (ws := _ :: wt) B.pre w (List.mem_cons_of_mem _ h), hK⟩
  have hr := B.returns
  have hlk := B.notSynchronized
  have hw : WW E b M TC MM TM s s.heap [] := ⟨hP, va_S.rf⟩
  have hl := lv_entry ([.ref (b + 0), .int x1]) (n := 5) (Nat.le_of_ble_eq_true rfl)
  rw [lg_entry_eq]
  generalize (lg_sl ([.ref (b + 0), .int x1]) ++ List.replicate (5 - (lg_sl ([.ref (b + 0), .int x1])).length) Slot.unset).toArray = ls at hl ⊢
  have hl : lv_has ls 5 [(0, .ref (b + 0)), (1, .int x1)] := hl
  obtain ⟨H, hH⟩ : ∃ H, H = s.heap := ⟨_, rfl⟩
  obtain ⟨locs, hL⟩ : ∃ L : List Loc, L = [] := ⟨_, rfl⟩
  rw [← hH, ← hL] at hw
  suffices hg : W p l e rmX7_allHeardIsSo s m _ below meth c H locs 0 0 (MQ below (va_Qi (fun x (_ : Unit) => x = res) (fun _ t => PW E b M TC MM TM t) (AA b)) _ s 0 0 (AA b)) (F0 m 0 ls []) by rw [hH, hL] at hg; exact hg
  clear hH hL
  rw [gX7_allHeardIsSo] at hf
  refine lv_iconst (v := 0) hx hb dX7_allHeardIsSo_0 (by decide) ?_
  refine lv_istore_n (lv' := [(2, .int 0), (0, .ref (b + 0)), (1, .int x1)]) hx hb dX7_allHeardIsSo_1 rfl hl (by decide) rfl (fun ls hl => ?_)
  exact tX7_allHeardIsSo_2 X hr hlk FU x1 0 M hf H locs ls hw (lv_sub hl [1, 2, 0] rfl)
