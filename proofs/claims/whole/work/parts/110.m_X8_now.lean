abbrev rmX8_now : Room := { frames := 1, cells := 0, slots := 0, locals := 23 }
theorem hd_X8_now : Hd yX8_now RX8 1 := by decide +kernel
def gX8_now_88   (x1 : Int32) (M : Mem) : Option (Int32) := (ldA 1233 (M 201) x1).bind fun v4 => some (v4)
def gX8_now_37   : Nat → Int32 → Int32 → Int32 → Int32 → Mem → Option (Int32)
  | 0, _, _, _, _, _ => none
  | n + 1, x1, x2, x3, x4, M => if 4 ≤ x4 then (if x1 = 0 then (gX8_now_88 x1 M) else (if x1 = 1 then (gX8_now_88 x1 M) else (if x1 = 2 then (some (x2)) else (if x1 = 3 then (some (x3)) else (some ((-1))))))) else ((gX8_inJar x4 M).bind fun u9 => (some (x3 + u9)).bind fun z11 => (some (x4 + 1)).bind fun z12 => (gX8_now_37 n) x1 x2 z11 z12 M)
def gX8_now_7   : Nat → Int32 → Int32 → Int32 → Int32 → Mem → Option (Int32)
  | 0, _, _, _, _, _ => none
  | n + 1, x1, x2, x3, x4, M => if (M 197 0) ≤ x4 then (gX8_now_37 FU x1 x2 x3 0 M) else ((ldA 1233 (M 201) (2 + x4)).bind fun v13 => (some (x2 + v13)).bind fun z15 => (some (x4 + 1)).bind fun z16 => (gX8_now_7 n) x1 z15 x3 z16 M)
def gX8_now (x1 : Int32) (M : Mem) : Option (Int32) := gX8_now_7 FU x1 0 0 0 M
set_option maxHeartbeats 4000000 in
set_option maxRecDepth 100000 in
theorem tX8_now_88 {p : Program} {l : Launch} {e : Env} {s : State} {m : MethodId} {args : Array Value} {below : List Frame} {meth : Method} {c : Code} {E : EE} {b : Nat} {MC : Mem} {TC : Int64} {TM : Int64} {res : Int32} (X : CX E p s m args c cX8_now 5 RX8) (hr : meth.sig.returnType = (some .int)) (hlk : meth.locks = false)    : ∀ (x1 : Int32) (M : Mem), gX8_now_88 x1 M = some res → ∀ (H : Heap) (locs : List Loc) (ls : Array Slot), WW E b MC TC M TM s H locs → lv_has ls 5 [(0, .ref (b + 197)), (1, .int x1)] → W p l e rmX8_now s m args below meth c H locs 0 0 (MQ below (va_Qi (fun x (_ : Unit) => x = res) (fun _ t => PW E b MC TC M TM t) (AA b)) args s 0 0 (AA b)) (F0 m 88 ls []) := by
  have hx := X.1
  have hb := X.2.1
  intro x1 M hf H locs ls hw hl
  rw [gX8_now_88] at hf
  refine lv_aload_n hx hb dX8_now_88 rfl (lv_at hl 0 rfl) ?_
  refine gt_X8 X hw 5 kk_197 rfl (by decide) mw_726 rfl dX8_now_89 ?_
  refine lv_iload_n hx hb dX8_now_92 rfl (lv_at hl 1 rfl) ?_
  obtain ⟨v4, q5, hf⟩ := ob hf
  refine aldM X hw kdv_201 q5 dX8_now_93 ?_
  replace hf := Option.some.inj hf
  subst hf
  exact eI X hw hr hlk dX8_now_94
set_option maxHeartbeats 4000000 in
set_option maxRecDepth 100000 in
theorem tX8_now_37 {p : Program} {l : Launch} {e : Env} {s : State} {m : MethodId} {args : Array Value} {below : List Frame} {meth : Method} {c : Code} {E : EE} {b : Nat} {MC : Mem} {TC : Int64} {TM : Int64} {res : Int32} (X : CX E p s m args c cX8_now 5 RX8) (hr : meth.sig.returnType = (some .int)) (hlk : meth.locks = false)    : ∀ (n : Nat) (x1 : Int32) (x2 : Int32) (x3 : Int32) (x4 : Int32) (M : Mem), gX8_now_37 n x1 x2 x3 x4 M = some res → ∀ (H : Heap) (locs : List Loc) (ls : Array Slot), WW E b MC TC M TM s H locs → lv_has ls 5 [(0, .ref (b + 197)), (1, .int x1), (2, .int x2), (3, .int x3), (4, .int x4)] → W p l e rmX8_now s m args below meth c H locs 0 0 (MQ below (va_Qi (fun x (_ : Unit) => x = res) (fun _ t => PW E b MC TC M TM t) (AA b)) args s 0 0 (AA b)) (F0 m 37 ls []) := by
  have hx := X.1
  have hb := X.2.1
  intro n
  induction n with
  | zero =>
    intro x1 x2 x3 x4 M hf
    cases (show (none : Option (Int32)) = some res from hf)
  | succ n ih =>
    intro x1 x2 x3 x4 M hf H locs ls hw hl
    rw [gX8_now_37] at hf
    refine lv_iload hx hb dX8_now_37 (lv_at hl 4 rfl) ?_
    refine lv_iconst (v := 4) hx hb dX8_now_39 (by decide) ?_
    refine lv_icmp_ge (tgt := 58) hx hb dX8_now_40 (by decide) (fun c2 => ?_) (fun c2 => ?_)
    · replace hf := (if_pos c2).symm.trans hf
      refine lv_iload_n hx hb dX8_now_58 rfl (lv_at hl 1 rfl) ?_
      by_cases c3 : x1 = 0
      · replace hf := (if_pos c3).symm.trans hf
        refine lv_tableIn (tgt := 88) (off := 29) hx hb dX8_now_59 (by rw [c3]; decide) (by rw [c3]; decide) (by rw [c3]; rfl) (by decide) ?_
        exact tX8_now_88 X hr hlk x1 M hf H locs ls hw (lv_sub hl [0, 1] rfl)
      · replace hf := (if_neg c3).symm.trans hf
        by_cases c6 : x1 = 1
        · replace hf := (if_pos c6).symm.trans hf
          refine lv_tableIn (tgt := 88) (off := 29) hx hb dX8_now_59 (by rw [c6]; decide) (by rw [c6]; decide) (by rw [c6]; rfl) (by decide) ?_
          exact tX8_now_88 X hr hlk x1 M hf H locs ls hw (lv_sub hl [0, 1] rfl)
        · replace hf := (if_neg c6).symm.trans hf
          by_cases c7 : x1 = 2
          · replace hf := (if_pos c7).symm.trans hf
            refine lv_tableIn (tgt := 95) (off := 36) hx hb dX8_now_59 (by rw [c7]; decide) (by rw [c7]; decide) (by rw [c7]; rfl) (by decide) ?_
            refine lv_iload_n hx hb dX8_now_95 rfl (lv_at hl 2 rfl) ?_
            replace hf := Option.some.inj hf
            subst hf
            exact eI X hw hr hlk dX8_now_96
          · replace hf := (if_neg c7).symm.trans hf
            by_cases c8 : x1 = 3
            · replace hf := (if_pos c8).symm.trans hf
              refine lv_tableIn (tgt := 97) (off := 38) hx hb dX8_now_59 (by rw [c8]; decide) (by rw [c8]; decide) (by rw [c8]; rfl) (by decide) ?_
              refine lv_iload_n hx hb dX8_now_97 rfl (lv_at hl 3 rfl) ?_
              replace hf := Option.some.inj hf
              subst hf
              exact eI X hw hr hlk dX8_now_98
            · replace hf := (if_neg c8).symm.trans hf
              have nc3 : x1.toInt ≠ 0 := fun q => c3 (Int32.toInt_inj.mp (q.trans (by decide)))
              have nc6 : x1.toInt ≠ 1 := fun q => c6 (Int32.toInt_inj.mp (q.trans (by decide)))
              have nc7 : x1.toInt ≠ 2 := fun q => c7 (Int32.toInt_inj.mp (q.trans (by decide)))
              have nc8 : x1.toInt ≠ 3 := fun q => c8 (Int32.toInt_inj.mp (q.trans (by decide)))
              refine lv_tableOut (tgt := 99) hx hb dX8_now_59 (by omega) (by decide) ?_
              refine lv_iconst (v := (-1)) hx hb dX8_now_99 (by decide) ?_
              replace hf := Option.some.inj hf
              subst hf
              exact eI X hw hr hlk dX8_now_100
    · replace hf := (if_neg c2).symm.trans hf
      refine lv_iload_n hx hb dX8_now_43 rfl (lv_at hl 3 rfl) ?_
      refine lv_aload_n hx hb dX8_now_44 rfl (lv_at hl 0 rfl) ?_
      refine lv_iload hx hb dX8_now_45 (lv_at hl 4 rfl) ?_
      obtain ⟨u9, q10, hf⟩ := ob hf
      refine cVi (As := [.int x4]) X hw (ctX8_inJar l E b  q10) ⟨mw_934, mw_936, mw_44, mw_61, mw_937⟩ hd_X8_inJar ⟨Nat.le_of_ble_eq_true rfl, Nat.le_of_ble_eq_true rfl, rfl, rfl⟩ (kdk kk_197 (by decide)) (ce_X8 E _ _ _ _ kk_197) (show vwCl[8]? = some (RX8, TX8, 31) from rfl) rfl hl.1 rfl (Nat.le_of_ble_eq_true rfl) dX8_now_47 (fun H locs hw => ?_)
      refine lv_iadd hx hb dX8_now_50 ?_
      refine lv_topi (fun z11 ez11 => ?_)
      replace hf := nmb hf ez11
      refine lv_istore_n (lv' := [(3, .int z11), (0, .ref (b + 197)), (1, .int x1), (2, .int x2), (4, .int x4)]) hx hb dX8_now_51 rfl hl (by decide) rfl (fun ls hl => ?_)
      obtain ⟨z12, ez12⟩ : ∃ y : Int32, y = x4 + 1 := ⟨_, rfl⟩
      replace hf := nmb hf ez12
      refine lv_iinc (v := z12) (lv' := [(4, .int z12), (3, .int z11), (0, .ref (b + 197)), (1, .int x1), (2, .int x2)]) hx hb dX8_now_52 hl (k := 4) rfl (by rw [ez12]; rfl) (by decide) rfl (fun ls hl => ?_)
      refine lv_goto (tgt := 37) hx hb dX8_now_55 (by decide) ?_
      exact ih x1 x2 z11 z12 M hf H locs ls hw (lv_sub hl [2, 3, 4, 1, 0] rfl)
set_option maxHeartbeats 4000000 in
set_option maxRecDepth 100000 in
theorem tX8_now_7 {p : Program} {l : Launch} {e : Env} {s : State} {m : MethodId} {args : Array Value} {below : List Frame} {meth : Method} {c : Code} {E : EE} {b : Nat} {MC : Mem} {TC : Int64} {TM : Int64} {res : Int32} (X : CX E p s m args c cX8_now 5 RX8) (hr : meth.sig.returnType = (some .int)) (hlk : meth.locks = false)    : ∀ (n : Nat) (x1 : Int32) (x2 : Int32) (x3 : Int32) (x4 : Int32) (M : Mem), gX8_now_7 n x1 x2 x3 x4 M = some res → ∀ (H : Heap) (locs : List Loc) (ls : Array Slot), WW E b MC TC M TM s H locs → lv_has ls 5 [(0, .ref (b + 197)), (1, .int x1), (2, .int x2), (3, .int x3), (4, .int x4)] → W p l e rmX8_now s m args below meth c H locs 0 0 (MQ below (va_Qi (fun x (_ : Unit) => x = res) (fun _ t => PW E b MC TC M TM t) (AA b)) args s 0 0 (AA b)) (F0 m 7 ls []) := by
  have hx := X.1
  have hb := X.2.1
  intro n
  induction n with
  | zero =>
    intro x1 x2 x3 x4 M hf
    cases (show (none : Option (Int32)) = some res from hf)
  | succ n ih =>
    intro x1 x2 x3 x4 M hf H locs ls hw hl
    rw [gX8_now_7] at hf
    refine lv_iload hx hb dX8_now_7 (lv_at hl 4 rfl) ?_
    refine lv_aload_n hx hb dX8_now_9 rfl (lv_at hl 0 rfl) ?_
    refine gt_X8 X hw 0 kk_197 rfl (by decide) mw_721 rfl dX8_now_10 ?_
    refine lv_icmp_ge (tgt := 34) hx hb dX8_now_13 (by decide) (fun c1 => ?_) (fun c1 => ?_)
    · replace hf := (if_pos c1).symm.trans hf
      refine lv_iconst (v := 0) hx hb dX8_now_34 (by decide) ?_
      refine lv_istore (lv' := [(4, .int 0), (0, .ref (b + 197)), (1, .int x1), (2, .int x2), (3, .int x3)]) hx hb dX8_now_35 hl (by decide) rfl (fun ls hl => ?_)
      exact tX8_now_37 X hr hlk FU x1 x2 x3 0 M hf H locs ls hw (lv_sub hl [1, 2, 3, 4, 0] rfl)
    · replace hf := (if_neg c1).symm.trans hf
      refine lv_iload_n hx hb dX8_now_16 rfl (lv_at hl 2 rfl) ?_
      refine lv_aload_n hx hb dX8_now_17 rfl (lv_at hl 0 rfl) ?_
      refine gt_X8 X hw 5 kk_197 rfl (by decide) mw_726 rfl dX8_now_18 ?_
      refine lv_iconst (v := 2) hx hb dX8_now_21 (by decide) ?_
      refine lv_iload hx hb dX8_now_22 (lv_at hl 4 rfl) ?_
      refine lv_iadd hx hb dX8_now_24 ?_
      obtain ⟨v13, q14, hf⟩ := ob hf
      refine aldM X hw kdv_201 q14 dX8_now_25 ?_
      refine lv_iadd hx hb dX8_now_26 ?_
      refine lv_topi (fun z15 ez15 => ?_)
      replace hf := nmb hf ez15
      refine lv_istore_n (lv' := [(2, .int z15), (0, .ref (b + 197)), (1, .int x1), (3, .int x3), (4, .int x4)]) hx hb dX8_now_27 rfl hl (by decide) rfl (fun ls hl => ?_)
      obtain ⟨z16, ez16⟩ : ∃ y : Int32, y = x4 + 1 := ⟨_, rfl⟩
      replace hf := nmb hf ez16
      refine lv_iinc (v := z16) (lv' := [(4, .int z16), (2, .int z15), (0, .ref (b + 197)), (1, .int x1), (3, .int x3)]) hx hb dX8_now_28 hl (k := 4) rfl (by rw [ez16]; rfl) (by decide) rfl (fun ls hl => ?_)
      refine lv_goto (tgt := 7) hx hb dX8_now_31 (by decide) ?_
      exact ih x1 z15 x3 z16 M hf H locs ls hw (lv_sub hl [2, 3, 1, 4, 0] rfl)
set_option maxHeartbeats 4000000 in
set_option maxRecDepth 100000 in
theorem ctX8_now (l : Launch) (E : EE) (b : Nat) {MC : Mem} {TC : Int64} {TM : Int64} {x1 : Int32} {M : Mem} {res : Int32}  (hf : gX8_now x1 M = some res) : MetI l E b yX8_now (.code yX8_now cX8_now 5 (some .int)) rmX8_now [.ref (b + 197), .int x1] MC TC M TM res MC TC M TM := by
  refine Met.ofW (cc := cX8_now) (maxL := 5) (ret := (some .int)) (by decide) rfl ?_
  intro p e s m args below meth c s₁ B hml hv
  obtain ⟨rfl, hP, hK⟩ := hv
  have hx := B.exec
  have hb := B.bytes
  have X : CX E p s m _ c cX8_now 5 RX8 := ⟨hx, hb, hml, findClass_of_methodNamed B.named, fun w h => atoms_spec (ws := _ :: wt) B.pre w (List.mem_cons_of_mem _ h), hK⟩
  have hr := B.returns
  have hlk := B.notSynchronized
  have hw : WW E b MC TC M TM s s.heap [] := ⟨hP, va_S.rf⟩
  have hl := lv_entry ([.ref (b + 197), .int x1]) (n := 5) (Nat.le_of_ble_eq_true rfl)
  rw [lg_entry_eq]
  generalize (lg_sl ([.ref (b + 197), .int x1]) ++ List.replicate (5 - (lg_sl ([.ref (b + 197), .int x1])).length) Slot.unset).toArray = ls at hl ⊢
  have hl : lv_has ls 5 [(0, .ref (b + 197)), (1, .int x1)] := hl
  obtain ⟨H, hH⟩ : ∃ H, H = s.heap := ⟨_, rfl⟩
  obtain ⟨locs, hL⟩ : ∃ L : List Loc, L = [] := ⟨_, rfl⟩
  rw [← hH, ← hL] at hw
  suffices hg : W p l e rmX8_now s m _ below meth c H locs 0 0 (MQ below (va_Qi (fun x (_ : Unit) => x = res) (fun _ t => PW E b MC TC M TM t) (AA b)) _ s 0 0 (AA b)) (F0 m 0 ls []) by rw [hH, hL] at hg; exact hg
  clear hH hL
  rw [gX8_now] at hf
  refine lv_iconst (v := 0) hx hb dX8_now_0 (by decide) ?_
  refine lv_istore_n (lv' := [(2, .int 0), (0, .ref (b + 197)), (1, .int x1)]) hx hb dX8_now_1 rfl hl (by decide) rfl (fun ls hl => ?_)
  refine lv_iconst (v := 0) hx hb dX8_now_2 (by decide) ?_
  refine lv_istore_n (lv' := [(3, .int 0), (2, .int 0), (0, .ref (b + 197)), (1, .int x1)]) hx hb dX8_now_3 rfl hl (by decide) rfl (fun ls hl => ?_)
  refine lv_iconst (v := 0) hx hb dX8_now_4 (by decide) ?_
  refine lv_istore (lv' := [(4, .int 0), (3, .int 0), (2, .int 0), (0, .ref (b + 197)), (1, .int x1)]) hx hb dX8_now_5 hl (by decide) rfl (fun ls hl => ?_)
  exact tX8_now_7 X hr hlk FU x1 0 0 0 M hf H locs ls hw (lv_sub hl [3, 4, 2, 1, 0] rfl)

abbrev rmX8_reads : Room := { frames := 2, cells := 0, slots := 0, locals := 42 }
theorem hd_X8_reads : Hd yX8_reads RX8 2 := by decide +kernel
def gX8_reads_154   (y0 : Int32) (M : Mem) : Option (Int32) := some (y0)
def gX8_reads_135  (k93 : Int32 → Int32 → Int32 → Int32 → Int32 → Mem → Option (Int32)) (x1 : Int32) (x2 : Int32) (x3 : Int32) (x6 : Int32) (y0 : Int32) (y1 : Int32) (M : Mem) : Option (Int32) := (some (y1 ||| y0)).bind fun z31 => (some (x6 + 1)).bind fun z32 => k93 x1 x2 x3 z31 z32 M
def gX8_reads_93   : Nat → Int32 → Int32 → Int32 → Int32 → Int32 → Mem → Option (Int32)
  | 0, _, _, _, _, _, _ => none
  | n + 1, x1, x2, x3, x5, x6, M => if (M 197 0) ≤ x6 then (if x2 = 0 then (gX8_reads_154 x3 M) else (gX8_reads_154 x5 M)) else ((ldA 5 (M 198) x6).bind fun v26 => (ldA 1233 (M 201) ((72 + (10 * x1)) + v26)).bind fun v28 => if v28 ≤ 0 then (gX8_reads_135 (gX8_reads_93 n) x1 x2 x3 x6 0 x5 M) else (gX8_reads_135 (gX8_reads_93 n) x1 x2 x3 x6 (1 <<< (x6 &&& 31)) x5 M))
def gX8_reads_79  (k27 : Int32 → Int32 → Int32 → Int32 → Int32 → Mem → Option (Int32)) (x1 : Int32) (x2 : Int32) (x3 : Int32) (x5 : Int32) (y0 : Int32) (M : Mem) : Option (Int32) := (some (x5 + 1)).bind fun z37 => k27 x1 x2 x3 y0 z37 M
def gX8_reads_64  (k27 : Int32 → Int32 → Int32 → Int32 → Int32 → Mem → Option (Int32)) (x1 : Int32) (x2 : Int32) (x4 : Int32) (x5 : Int32) (x6 : Int32) (y0 : Int32) (M : Mem) : Option (Int32) := if x6 ≤ x4 then (gX8_reads_79 k27 x1 x2 y0 x5 x4 M) else (gX8_reads_79 k27 x1 x2 y0 x5 x6 M)
def gX8_reads_27   : Nat → Int32 → Int32 → Int32 → Int32 → Int32 → Mem → Option (Int32)
  | 0, _, _, _, _, _, _ => none
  | n + 1, x1, x2, x3, x4, x5, M => if 10 ≤ x5 then (gX8_reads_93 FU x1 x2 x3 0 0 M) else ((ldA 1233 (M 201) ((72 + (10 * x1)) + x5)).bind fun v33 => if v33 ≤ x4 then (gX8_reads_64 (gX8_reads_27 n) x1 x2 x4 x5 v33 x3 M) else (gX8_reads_64 (gX8_reads_27 n) x1 x2 x4 x5 v33 x5 M))
def gX8_reads (x1 : Int32) (x2 : Int32) (M : Mem) : Option (Int32) := (gX8_isJar x1).bind fun u17 => if u17 = 0 then (some ((-1))) else ((gX8_in x2 0 1).bind fun u20 => if u20 = 0 then (some ((-1))) else (gX8_reads_27 FU x1 x2 ((-9)) 0 0 M))
set_option maxHeartbeats 4000000 in
set_option maxRecDepth 100000 in
theorem tX8_reads_154 {p : Program} {l : Launch} {e : Env} {s : State} {m : MethodId} {args : Array Value} {below : List Frame} {meth : Method} {c : Code} {E : EE} {b : Nat} {MC : Mem} {TC : Int64} {TM : Int64} {res : Int32} (X : CX E p s m args c cX8_reads 7 RX8) (hr : meth.sig.returnType = (some .int)) (hlk : meth.locks = false)    : ∀ (y0 : Int32) (M : Mem), gX8_reads_154 y0 M = some res → ∀ (H : Heap) (locs : List Loc) (ls : Array Slot), WW E b MC TC M TM s H locs → lv_has ls 7 [] → W p l e rmX8_reads s m args below meth c H locs 0 0 (MQ below (va_Qi (fun x (_ : Unit) => x = res) (fun _ t => PW E b MC TC M TM t) (AA b)) args s 0 0 (AA b)) (F0 m 154 ls [.int y0]) := by
  have hx := X.1
  have hb := X.2.1
  intro y0 M hf H locs ls hw hl
  rw [gX8_reads_154] at hf
  replace hf := Option.some.inj hf
  subst hf
  exact eI X hw hr hlk dX8_reads_154
set_option maxHeartbeats 4000000 in
set_option maxRecDepth 100000 in
theorem tX8_reads_135 {p : Program} {l : Launch} {e : Env} {s : State} {m : MethodId} {args : Array Value} {below : List Frame} {meth : Method} {c : Code} {E : EE} {b : Nat} {MC : Mem} {TC : Int64} {TM : Int64} {res : Int32} (X : CX E p s m args c cX8_reads 7 RX8) (hr : meth.sig.returnType = (some .int)) (hlk : meth.locks = false)   {k93 : Int32 → Int32 → Int32 → Int32 → Int32 → Mem → Option (Int32)} (hk93 : ∀ (x1 : Int32) (x2 : Int32) (x3 : Int32) (x5 : Int32) (x6 : Int32) (M : Mem), k93 x1 x2 x3 x5 x6 M = some res → ∀ (H : Heap) (locs : List Loc) (ls : Array Slot), WW E b MC TC M TM s H locs → lv_has ls 7 [(0, .ref (b + 197)), (1, .int x1), (2, .int x2), (3, .int x3), (5, .int x5), (6, .int x6)] → W p l e rmX8_reads s m args below meth c H locs 0 0 (MQ below (va_Qi (fun x (_ : Unit) => x = res) (fun _ t => PW E b MC TC M TM t) (AA b)) args s 0 0 (AA b)) (F0 m 93 ls [])) : ∀ (x1 : Int32) (x2 : Int32) (x3 : Int32) (x6 : Int32) (y0 : Int32) (y1 : Int32) (M : Mem), gX8_reads_135 k93 x1 x2 x3 x6 y0 y1 M = some res → ∀ (H : Heap) (locs : List Loc) (ls : Array Slot), WW E b MC TC M TM s H locs → lv_has ls 7 [(0, .ref (b + 197)), (1, .int x1), (2, .int x2), (3, .int x3), (6, .int x6)] → W p l e rmX8_reads s m args below meth c H locs 0 0 (MQ below (va_Qi (fun x (_ : Unit) => x = res) (fun _ t => PW E b MC TC M TM t) (AA b)) args s 0 0 (AA b)) (F0 m 135 ls [.int y0, .int y1]) := by
  have hx := X.1
  have hb := X.2.1
  intro x1 x2 x3 x6 y0 y1 M hf H locs ls hw hl
  rw [gX8_reads_135] at hf
  refine lv_ior hx hb dX8_reads_135 ?_
  refine lv_topi (fun z31 ez31 => ?_)
  replace hf := nmb hf ez31
  refine lv_istore (lv' := [(5, .int z31), (0, .ref (b + 197)), (1, .int x1), (2, .int x2), (3, .int x3), (6, .int x6)]) hx hb dX8_reads_136 hl (by decide) rfl (fun ls hl => ?_)
  obtain ⟨z32, ez32⟩ : ∃ y : Int32, y = x6 + 1 := ⟨_, rfl⟩
  replace hf := nmb hf ez32
  refine lv_iinc (v := z32) (lv' := [(6, .int z32), (5, .int z31), (0, .ref (b + 197)), (1, .int x1), (2, .int x2), (3, .int x3)]) hx hb dX8_reads_138 hl (k := 5) rfl (by rw [ez32]; rfl) (by decide) rfl (fun ls hl => ?_)
  refine lv_goto (tgt := 93) hx hb dX8_reads_141 (by decide) ?_
  exact hk93 x1 x2 x3 z31 z32 M hf H locs ls hw (lv_sub hl [2, 3, 4, 5, 1, 0] rfl)
set_option maxHeartbeats 4000000 in
set_option maxRecDepth 100000 in
theorem tX8_reads_93 {p : Program} {l : Launch} {e : Env} {s : State} {m : MethodId} {args : Array Value} {below : List Frame} {meth : Method} {c : Code} {E : EE} {b : Nat} {MC : Mem} {TC : Int64} {TM : Int64} {res : Int32} (X : CX E p s m args c cX8_reads 7 RX8) (hr : meth.sig.returnType = (some .int)) (hlk : meth.locks = false)    : ∀ (n : Nat) (x1 : Int32) (x2 : Int32) (x3 : Int32) (x5 : Int32) (x6 : Int32) (M : Mem), gX8_reads_93 n x1 x2 x3 x5 x6 M = some res → ∀ (H : Heap) (locs : List Loc) (ls : Array Slot), WW E b MC TC M TM s H locs → lv_has ls 7 [(0, .ref (b + 197)), (1, .int x1), (2, .int x2), (3, .int x3), (5, .int x5), (6, .int x6)] → W p l e rmX8_reads s m args below meth c H locs 0 0 (MQ below (va_Qi (fun x (_ : Unit) => x = res) (fun _ t => PW E b MC TC M TM t) (AA b)) args s 0 0 (AA b)) (F0 m 93 ls []) := by
  have hx := X.1
  have hb := X.2.1
  intro n
  induction n with
  | zero =>
    intro x1 x2 x3 x5 x6 M hf
    cases (show (none : Option (Int32)) = some res from hf)
  | succ n ih =>
    intro x1 x2 x3 x5 x6 M hf H locs ls hw hl
    rw [gX8_reads_93] at hf
    refine lv_iload hx hb dX8_reads_93 (lv_at hl 5 rfl) ?_
    refine lv_aload_n hx hb dX8_reads_95 rfl (lv_at hl 0 rfl) ?_
    refine gt_X8 X hw 0 kk_197 rfl (by decide) mw_721 rfl dX8_reads_96 ?_
    refine lv_icmp_ge (tgt := 144) hx hb dX8_reads_99 (by decide) (fun c24 => ?_) (fun c24 => ?_)
    · replace hf := (if_pos c24).symm.trans hf
      refine lv_iload_n hx hb dX8_reads_144 rfl (lv_at hl 2 rfl) ?_
      refine lv_if_ne (tgt := 152) hx hb dX8_reads_145 (by decide) (fun c25 => ?_) (fun c25 => ?_)
      · replace hf := (if_neg c25).symm.trans hf
        refine lv_iload hx hb dX8_reads_152 (lv_at hl 4 rfl) ?_
        exact tX8_reads_154 X hr hlk x5 M hf H locs ls hw (lv_sub hl [] rfl)
      · replace hf := (if_pos c25).symm.trans hf
        refine lv_iload_n hx hb dX8_reads_148 rfl (lv_at hl 3 rfl) ?_
        refine lv_goto (tgt := 154) hx hb dX8_reads_149 (by decide) ?_
        exact tX8_reads_154 X hr hlk x3 M hf H locs ls hw (lv_sub hl [] rfl)
    · replace hf := (if_neg c24).symm.trans hf
      refine lv_iload hx hb dX8_reads_102 (lv_at hl 4 rfl) ?_
      refine lv_aload_n hx hb dX8_reads_104 rfl (lv_at hl 0 rfl) ?_
      refine gt_X8 X hw 5 kk_197 rfl (by decide) mw_726 rfl dX8_reads_105 ?_
      refine lv_bipush (v := 72) hx hb dX8_reads_108 (by decide) ?_
      refine lv_bipush (v := 10) hx hb dX8_reads_110 (by decide) ?_
      refine lv_iload_n hx hb dX8_reads_112 rfl (lv_at hl 1 rfl) ?_
      refine lv_imul hx hb dX8_reads_113 ?_
      refine lv_iadd hx hb dX8_reads_114 ?_
      refine lv_aload_n hx hb dX8_reads_115 rfl (lv_at hl 0 rfl) ?_
      refine gt_X8 X hw 1 kk_197 rfl (by decide) mw_722 rfl dX8_reads_116 ?_
      refine lv_iload hx hb dX8_reads_119 (lv_at hl 5 rfl) ?_
      obtain ⟨v26, q27, hf⟩ := ob hf
      refine aldM X hw kdv_198 q27 dX8_reads_121 ?_
      refine lv_iadd hx hb dX8_reads_122 ?_
      obtain ⟨v28, q29, hf⟩ := ob hf
      refine aldM X hw kdv_201 q29 dX8_reads_123 ?_
      refine lv_if_le (tgt := 134) hx hb dX8_reads_124 (by decide) (fun c30 => ?_) (fun c30 => ?_)
      · replace hf := (if_pos c30).symm.trans hf
        refine lv_iconst (v := 0) hx hb dX8_reads_134 (by decide) ?_
        exact tX8_reads_135 X hr hlk ih x1 x2 x3 x6 0 x5 M hf H locs ls hw (lv_sub hl [0, 1, 2, 3, 5] rfl)
      · replace hf := (if_neg c30).symm.trans hf
        refine lv_iconst (v := 1) hx hb dX8_reads_127 (by decide) ?_
        refine lv_iload hx hb dX8_reads_128 (lv_at hl 5 rfl) ?_
        refine lv_ishl hx hb dX8_reads_130 ?_
        refine lv_goto (tgt := 135) hx hb dX8_reads_131 (by decide) ?_
        exact tX8_reads_135 X hr hlk ih x1 x2 x3 x6 (1 <<< (x6 &&& 31)) x5 M hf H locs ls hw (lv_sub hl [0, 1, 2, 3, 5] rfl)
set_option maxHeartbeats 4000000 in
set_option maxRecDepth 100000 in
theorem tX8_reads_79 {p : Program} {l : Launch} {e : Env} {s : State} {m : MethodId} {args : Array Value} {below : List Frame} {meth : Method} {c : Code} {E : EE} {b : Nat} {MC : Mem} {TC : Int64} {TM : Int64} {res : Int32} (X : CX E p s m args c cX8_reads 7 RX8) (hr : meth.sig.returnType = (some .int)) (hlk : meth.locks = false)   {k27 : Int32 → Int32 → Int32 → Int32 → Int32 → Mem → Option (Int32)} (hk27 : ∀ (x1 : Int32) (x2 : Int32) (x3 : Int32) (x4 : Int32) (x5 : Int32) (M : Mem), k27 x1 x2 x3 x4 x5 M = some res → ∀ (H : Heap) (locs : List Loc) (ls : Array Slot), WW E b MC TC M TM s H locs → lv_has ls 7 [(0, .ref (b + 197)), (1, .int x1), (2, .int x2), (3, .int x3), (4, .int x4), (5, .int x5)] → W p l e rmX8_reads s m args below meth c H locs 0 0 (MQ below (va_Qi (fun x (_ : Unit) => x = res) (fun _ t => PW E b MC TC M TM t) (AA b)) args s 0 0 (AA b)) (F0 m 27 ls [])) : ∀ (x1 : Int32) (x2 : Int32) (x3 : Int32) (x5 : Int32) (y0 : Int32) (M : Mem), gX8_reads_79 k27 x1 x2 x3 x5 y0 M = some res → ∀ (H : Heap) (locs : List Loc) (ls : Array Slot), WW E b MC TC M TM s H locs → lv_has ls 7 [(0, .ref (b + 197)), (1, .int x1), (2, .int x2), (3, .int x3), (5, .int x5)] → W p l e rmX8_reads s m args below meth c H locs 0 0 (MQ below (va_Qi (fun x (_ : Unit) => x = res) (fun _ t => PW E b MC TC M TM t) (AA b)) args s 0 0 (AA b)) (F0 m 79 ls [.int y0]) := by
  have hx := X.1
  have hb := X.2.1
  intro x1 x2 x3 x5 y0 M hf H locs ls hw hl
  rw [gX8_reads_79] at hf
  refine lv_istore (lv' := [(4, .int y0), (0, .ref (b + 197)), (1, .int x1), (2, .int x2), (3, .int x3), (5, .int x5)]) hx hb dX8_reads_79 hl (by decide) rfl (fun ls hl => ?_)
  obtain ⟨z37, ez37⟩ : ∃ y : Int32, y = x5 + 1 := ⟨_, rfl⟩
  replace hf := nmb hf ez37
  refine lv_iinc (v := z37) (lv' := [(5, .int z37), (4, .int y0), (0, .ref (b + 197)), (1, .int x1), (2, .int x2), (3, .int x3)]) hx hb dX8_reads_81 hl (k := 5) rfl (by rw [ez37]; rfl) (by decide) rfl (fun ls hl => ?_)
  refine lv_goto (tgt := 27) hx hb dX8_reads_84 (by decide) ?_
  exact hk27 x1 x2 x3 y0 z37 M hf H locs ls hw (lv_sub hl [2, 3, 4, 5, 1, 0] rfl)
set_option maxHeartbeats 4000000 in
set_option maxRecDepth 100000 in
theorem tX8_reads_64 {p : Program} {l : Launch} {e : Env} {s : State} {m : MethodId} {args : Array Value} {below : List Frame} {meth : Method} {c : Code} {E : EE} {b : Nat} {MC : Mem} {TC : Int64} {TM : Int64} {res : Int32} (X : CX E p s m args c cX8_reads 7 RX8) (hr : meth.sig.returnType = (some .int)) (hlk : meth.locks = false)   {k27 : Int32 → Int32 → Int32 → Int32 → Int32 → Mem → Option (Int32)} (hk27 : ∀ (x1 : Int32) (x2 : Int32) (x3 : Int32) (x4 : Int32) (x5 : Int32) (M : Mem), k27 x1 x2 x3 x4 x5 M = some res → ∀ (H : Heap) (locs : List Loc) (ls : Array Slot), WW E b MC TC M TM s H locs → lv_has ls 7 [(0, .ref (b + 197)), (1, .int x1), (2, .int x2), (3, .int x3), (4, .int x4), (5, .int x5)] → W p l e rmX8_reads s m args below meth c H locs 0 0 (MQ below (va_Qi (fun x (_ : Unit) => x = res) (fun _ t => PW E b MC TC M TM t) (AA b)) args s 0 0 (AA b)) (F0 m 27 ls [])) : ∀ (x1 : Int32) (x2 : Int32) (x4 : Int32) (x5 : Int32) (x6 : Int32) (y0 : Int32) (M : Mem), gX8_reads_64 k27 x1 x2 x4 x5 x6 y0 M = some res → ∀ (H : Heap) (locs : List Loc) (ls : Array Slot), WW E b MC TC M TM s H locs → lv_has ls 7 [(0, .ref (b + 197)), (1, .int x1), (2, .int x2), (4, .int x4), (5, .int x5), (6, .int x6)] → W p l e rmX8_reads s m args below meth c H locs 0 0 (MQ below (va_Qi (fun x (_ : Unit) => x = res) (fun _ t => PW E b MC TC M TM t) (AA b)) args s 0 0 (AA b)) (F0 m 64 ls [.int y0]) := by
  have hx := X.1
  have hb := X.2.1
  intro x1 x2 x4 x5 x6 y0 M hf H locs ls hw hl
  rw [gX8_reads_64] at hf
  refine lv_istore_n (lv' := [(3, .int y0), (0, .ref (b + 197)), (1, .int x1), (2, .int x2), (4, .int x4), (5, .int x5), (6, .int x6)]) hx hb dX8_reads_64 rfl hl (by decide) rfl (fun ls hl => ?_)
  refine lv_iload hx hb dX8_reads_65 (lv_at hl 6 rfl) ?_
  refine lv_iload hx hb dX8_reads_67 (lv_at hl 4 rfl) ?_
  refine lv_icmp_le (tgt := 77) hx hb dX8_reads_69 (by decide) (fun c36 => ?_) (fun c36 => ?_)
  · replace hf := (if_pos c36).symm.trans hf
    refine lv_iload hx hb dX8_reads_77 (lv_at hl 4 rfl) ?_
    exact tX8_reads_79 X hr hlk hk27 x1 x2 y0 x5 x4 M hf H locs ls hw (lv_sub hl [1, 2, 3, 0, 5] rfl)
  · replace hf := (if_neg c36).symm.trans hf
    refine lv_iload hx hb dX8_reads_72 (lv_at hl 6 rfl) ?_
    refine lv_goto (tgt := 79) hx hb dX8_reads_74 (by decide) ?_
    exact tX8_reads_79 X hr hlk hk27 x1 x2 y0 x5 x6 M hf H locs ls hw (lv_sub hl [1, 2, 3, 0, 5] rfl)
set_option maxHeartbeats 4000000 in
set_option maxRecDepth 100000 in
theorem tX8_reads_27 {p : Program} {l : Launch} {e : Env} {s : State} {m : MethodId} {args : Array Value} {below : List Frame} {meth : Method} {c : Code} {E : EE} {b : Nat} {MC : Mem} {TC : Int64} {TM : Int64} {res : Int32} (X : CX E p s m args c cX8_reads 7 RX8) (hr : meth.sig.returnType = (some .int)) (hlk : meth.locks = false)    : ∀ (n : Nat) (x1 : Int32) (x2 : Int32) (x3 : Int32) (x4 : Int32) (x5 : Int32) (M : Mem), gX8_reads_27 n x1 x2 x3 x4 x5 M = some res → ∀ (H : Heap) (locs : List Loc) (ls : Array Slot), WW E b MC TC M TM s H locs → lv_has ls 7 [(0, .ref (b + 197)), (1, .int x1), (2, .int x2), (3, .int x3), (4, .int x4), (5, .int x5)] → W p l e rmX8_reads s m args below meth c H locs 0 0 (MQ below (va_Qi (fun x (_ : Unit) => x = res) (fun _ t => PW E b MC TC M TM t) (AA b)) args s 0 0 (AA b)) (F0 m 27 ls []) := by
  have hx := X.1
  have hb := X.2.1
  intro n
  induction n with
  | zero =>
    intro x1 x2 x3 x4 x5 M hf
    cases (show (none : Option (Int32)) = some res from hf)
  | succ n ih =>
    intro x1 x2 x3 x4 x5 M hf H locs ls hw hl
    rw [gX8_reads_27] at hf
    refine lv_iload hx hb dX8_reads_27 (lv_at hl 5 rfl) ?_
    refine lv_bipush (v := 10) hx hb dX8_reads_29 (by decide) ?_
    refine lv_icmp_ge (tgt := 87) hx hb dX8_reads_31 (by decide) (fun c23 => ?_) (fun c23 => ?_)
    · replace hf := (if_pos c23).symm.trans hf
      refine lv_iconst (v := 0) hx hb dX8_reads_87 (by decide) ?_
      refine lv_istore (lv' := [(5, .int 0), (0, .ref (b + 197)), (1, .int x1), (2, .int x2), (3, .int x3), (4, .int x4)]) hx hb dX8_reads_88 hl (by decide) rfl (fun ls hl => ?_)
      refine lv_iconst (v := 0) hx hb dX8_reads_90 (by decide) ?_
      refine lv_istore (lv' := [(6, .int 0), (5, .int 0), (0, .ref (b + 197)), (1, .int x1), (2, .int x2), (3, .int x3), (4, .int x4)]) hx hb dX8_reads_91 hl (by decide) rfl (fun ls hl => ?_)
      exact tX8_reads_93 X hr hlk FU x1 x2 x3 0 0 M hf H locs ls hw (lv_sub hl [2, 3, 4, 5, 1, 0] rfl)
    · replace hf := (if_neg c23).symm.trans hf
      refine lv_aload_n hx hb dX8_reads_34 rfl (lv_at hl 0 rfl) ?_
      refine gt_X8 X hw 5 kk_197 rfl (by decide) mw_726 rfl dX8_reads_35 ?_
      refine lv_bipush (v := 72) hx hb dX8_reads_38 (by decide) ?_
      refine lv_bipush (v := 10) hx hb dX8_reads_40 (by decide) ?_
      refine lv_iload_n hx hb dX8_reads_42 rfl (lv_at hl 1 rfl) ?_
      refine lv_imul hx hb dX8_reads_43 ?_
      refine lv_iadd hx hb dX8_reads_44 ?_
      refine lv_iload hx hb dX8_reads_45 (lv_at hl 5 rfl) ?_
      refine lv_iadd hx hb dX8_reads_47 ?_
      obtain ⟨v33, q34, hf⟩ := ob hf
      refine aldM X hw kdv_201 q34 dX8_reads_48 ?_
      refine lv_istore (lv' := [(6, .int v33), (0, .ref (b + 197)), (1, .int x1), (2, .int x2), (3, .int x3), (4, .int x4), (5, .int x5)]) hx hb dX8_reads_49 hl (by decide) rfl (fun ls hl => ?_)
      refine lv_iload hx hb dX8_reads_51 (lv_at hl 0 rfl) ?_
      refine lv_iload hx hb dX8_reads_53 (lv_at hl 5 rfl) ?_
      refine lv_icmp_le (tgt := 63) hx hb dX8_reads_55 (by decide) (fun c35 => ?_) (fun c35 => ?_)
      · replace hf := (if_pos c35).symm.trans hf
        refine lv_iload_n hx hb dX8_reads_63 rfl (lv_at hl 4 rfl) ?_
        exact tX8_reads_64 X hr hlk ih x1 x2 x4 x5 v33 x3 M hf H locs ls hw (lv_sub hl [1, 2, 3, 5, 6, 0] rfl)
      · replace hf := (if_neg c35).symm.trans hf
        refine lv_iload hx hb dX8_reads_58 (lv_at hl 6 rfl) ?_
        refine lv_goto (tgt := 64) hx hb dX8_reads_60 (by decide) ?_
        exact tX8_reads_64 X hr hlk ih x1 x2 x4 x5 v33 x5 M hf H locs ls hw (lv_sub hl [1, 2, 3, 5, 6, 0] rfl)
set_option maxHeartbeats 4000000 in
set_option maxRecDepth 100000 in
theorem ctX8_reads (l : Launch) (E : EE) (b : Nat) {MC : Mem} {TC : Int64} {TM : Int64} {x1 : Int32} {x2 : Int32} {M : Mem} {res : Int32}  (hf : gX8_reads x1 x2 M = some res) : MetI l E b yX8_reads (.code yX8_reads cX8_reads 7 (some .int)) rmX8_reads [.ref (b + 197), .int x1, .int x2] MC TC M TM res MC TC M TM := by
  refine Met.ofW (cc := cX8_reads) (maxL := 7) (ret := (some .int)) (by decide) rfl ?_
  intro p e s m args below meth c s₁ B hml hv
  obtain ⟨rfl, hP, hK⟩ := hv
  have hx := B.exec
  have hb := B.bytes
  have X : CX E p s m _ c cX8_reads 7 RX8 := ⟨hx, hb, hml, findClass_of_methodNamed B.named, fun w h => atoms_spec (ws := _ :: wt) B.pre w (List.mem_cons_of_mem _ h), hK⟩
  have hr := B.returns
  have hlk := B.notSynchronized
  have hw : WW E b MC TC M TM s s.heap [] := ⟨hP, va_S.rf⟩
  have hl := lv_entry ([.ref (b + 197), .int x1, .int x2]) (n := 7) (Nat.le_of_ble_eq_true rfl)
  rw [lg_entry_eq]
  generalize (lg_sl ([.ref (b + 197), .int x1, .int x2]) ++ List.replicate (7 - (lg_sl ([.ref (b + 197), .int x1, .int x2])).length) Slot.unset).toArray = ls at hl ⊢
  have hl : lv_has ls 7 [(0, .ref (b + 197)), (1, .int x1), (2, .int x2)] := hl
  obtain ⟨H, hH⟩ : ∃ H, H = s.heap := ⟨_, rfl⟩
  obtain ⟨locs, hL⟩ : ∃ L : List Loc, L = [] := ⟨_, rfl⟩
  rw [← hH, ← hL] at hw
  suffices hg : W p l e rmX8_reads s m _ below meth c H locs 0 0 (MQ below (va_Qi (fun x (_ : Unit) => x = res) (fun _ t => PW E b MC TC M TM t) (AA b)) _ s 0 0 (AA b)) (F0 m 0 ls []) by rw [hH, hL] at hg; exact hg
  clear hH hL
  rw [gX8_reads] at hf
  refine lv_iload_n hx hb dX8_reads_0 rfl (lv_at hl 1 rfl) ?_
  obtain ⟨u17, q18, hf⟩ := ob hf
  refine cSi (As := [.int x1]) X hw (ctX8_isJar l E b  q18) ⟨mw_892, mw_893, mw_61, mw_894⟩ hd_X8_isJar ⟨Nat.le_of_ble_eq_true rfl, Nat.le_of_ble_eq_true rfl, rfl, rfl⟩ rfl hl.1 rfl (Nat.le_of_ble_eq_true rfl) dX8_reads_1 (fun H locs hw => ?_)
  refine lv_if_eq (tgt := 16) hx hb dX8_reads_4 (by decide) (fun c19 => ?_) (fun c19 => ?_)
  · replace hf := (if_pos c19).symm.trans hf
    refine lv_iconst (v := (-1)) hx hb dX8_reads_16 (by decide) ?_
    replace hf := Option.some.inj hf
    subst hf
    exact eI X hw hr hlk dX8_reads_17
  · replace hf := (if_neg c19).symm.trans hf
    refine lv_iload_n hx hb dX8_reads_7 rfl (lv_at hl 2 rfl) ?_
    refine lv_iconst (v := 0) hx hb dX8_reads_8 (by decide) ?_
    refine lv_iconst (v := 1) hx hb dX8_reads_9 (by decide) ?_
    obtain ⟨u20, q21, hf⟩ := ob hf
    refine cSi (As := [.int x2, .int 0, .int 1]) X hw (ctX8_in l E b  q21) ⟨mw_819, mw_820, mw_61, mw_821⟩ hd_X8_in ⟨Nat.le_of_ble_eq_true rfl, Nat.le_of_ble_eq_true rfl, rfl, rfl⟩ rfl hl.1 rfl (Nat.le_of_ble_eq_true rfl) dX8_reads_10 (fun H locs hw => ?_)
    refine lv_if_ne (tgt := 18) hx hb dX8_reads_13 (by decide) (fun c22 => ?_) (fun c22 => ?_)
    · replace hf := (if_neg c22).symm.trans hf
      refine lv_bipush (v := (-9)) hx hb dX8_reads_18 (by decide) ?_
      refine lv_istore_n (lv' := [(3, .int ((-9))), (0, .ref (b + 197)), (1, .int x1), (2, .int x2)]) hx hb dX8_reads_20 rfl hl (by decide) rfl (fun ls hl => ?_)
      refine lv_iconst (v := 0) hx hb dX8_reads_21 (by decide) ?_
      refine lv_istore (lv' := [(4, .int 0), (3, .int ((-9))), (0, .ref (b + 197)), (1, .int x1), (2, .int x2)]) hx hb dX8_reads_22 hl (by decide) rfl (fun ls hl => ?_)
      refine lv_iconst (v := 0) hx hb dX8_reads_24 (by decide) ?_
      refine lv_istore (lv' := [(5, .int 0), (4, .int 0), (3, .int ((-9))), (0, .ref (b + 197)), (1, .int x1), (2, .int x2)]) hx hb dX8_reads_25 hl (by decide) rfl (fun ls hl => ?_)
      exact tX8_reads_27 X hr hlk FU x1 x2 ((-9)) 0 0 M hf H locs ls hw (lv_sub hl [3, 4, 5, 2, 1, 0] rfl)
    · replace hf := (if_pos c22).symm.trans hf
      refine lv_iconst (v := (-1)) hx hb dX8_reads_16 (by decide) ?_
      replace hf := Option.some.inj hf
      subst hf
      exact eI X hw hr hlk dX8_reads_17

abbrev rmX8_asItIs : Room := { frames := 1, cells := 0, slots := 0, locals := 22 }
theorem hd_X8_asItIs : Hd yX8_asItIs RX8 1 := by decide +kernel
def gX8_asItIs_19   : Nat → Int32 → Int32 → Mem → Option (Mem)
  | 0, _, _, _ => none
  | n + 1, x1, x2, M => if (M 197 29) ≤ x2 then (some (M)) else ((gX8_layerOf x1 x2 M).bind fun u43 => (stA 40 M 210 x2 u43).bind fun M45 => (some (x2 + 1)).bind fun z47 => (gX8_asItIs_19 n) x1 z47 M45)
def gX8_asItIs (x1 : Int32) (M : Mem) : Option (Mem) := (some (us M 197 28 0)).bind fun M38 => (ldA 1233 (M38 201) (2 + x1)).bind fun v39 => (some (us M38 197 29 v39)).bind fun M41 => gX8_asItIs_19 FU x1 0 M41
set_option maxHeartbeats 4000000 in
set_option maxRecDepth 100000 in
theorem tX8_asItIs_19 {p : Program} {l : Launch} {e : Env} {s : State} {m : MethodId} {args : Array Value} {below : List Frame} {meth : Method} {c : Code} {E : EE} {b : Nat} {MC : Mem} {TC : Int64} {TM : Int64} {res : Mem} (X : CX E p s m args c cX8_asItIs 3 RX8) (hr : meth.sig.returnType = none) (hlk : meth.locks = false)    : ∀ (n : Nat) (x1 : Int32) (x2 : Int32) (M : Mem), gX8_asItIs_19 n x1 x2 M = some res → ∀ (H : Heap) (locs : List Loc) (ls : Array Slot), WW E b MC TC M TM s H locs → lv_has ls 3 [(0, .ref (b + 197)), (1, .int x1), (2, .int x2)] → W p l e rmX8_asItIs s m args below meth c H locs 0 0 (MQ below (va_Qv (fun (_ : Unit) => True) (fun _ t => PW E b MC TC res TM t) (AA b)) args s 0 0 (AA b)) (F0 m 19 ls []) := by
  have hx := X.1
  have hb := X.2.1
  intro n
  induction n with
  | zero =>
    intro x1 x2 M hf
    cases (show (none : Option (Mem)) = some res from hf)
  | succ n ih =>
    intro x1 x2 M hf H locs ls hw hl
    rw [gX8_asItIs_19] at hf
    refine lv_iload_n hx hb dX8_asItIs_19 rfl (lv_at hl 2 rfl) ?_
    refine lv_aload_n hx hb dX8_asItIs_20 rfl (lv_at hl 0 rfl) ?_
    refine gt_X8 X hw 29 kk_197 rfl (by decide) mw_750 rfl dX8_asItIs_21 ?_
    refine lv_icmp_ge (tgt := 45) hx hb dX8_asItIs_24 (by decide) (fun c42 => ?_) (fun c42 => ?_)
    · replace hf := (if_pos c42).symm.trans hf
      replace hf := Option.some.inj hf
      subst hf
      exact eV X hw hr hlk dX8_asItIs_45
    · replace hf := (if_neg c42).symm.trans hf
      refine lv_aload_n hx hb dX8_asItIs_27 rfl (lv_at hl 0 rfl) ?_
      refine gt_X8 X hw 27 kk_197 rfl (by decide) mw_748 rfl dX8_asItIs_28 ?_
      refine lv_iload_n hx hb dX8_asItIs_31 rfl (lv_at hl 2 rfl) ?_
      refine lv_aload_n hx hb dX8_asItIs_32 rfl (lv_at hl 0 rfl) ?_
      refine lv_iload_n hx hb dX8_asItIs_33 rfl (lv_at hl 1 rfl) ?_
      refine lv_iload_n hx hb dX8_asItIs_34 rfl (lv_at hl 2 rfl) ?_
      obtain ⟨u43, q44, hf⟩ := ob hf
      refine cVi (As := [.int x1, .int x2]) X hw (ctX8_layerOf l E b  q44) ⟨mw_876, mw_878, mw_39, mw_61, mw_879⟩ hd_X8_layerOf ⟨Nat.le_of_ble_eq_true rfl, Nat.le_of_ble_eq_true rfl, rfl, rfl⟩ (kdk kk_197 (by decide)) (ce_X8 E _ _ _ _ kk_197) (show vwCl[8]? = some (RX8, TX8, 31) from rfl) rfl hl.1 rfl (Nat.le_of_ble_eq_true rfl) dX8_asItIs_35 (fun H locs hw => ?_)
      obtain ⟨M45, q46, hf⟩ := ob hf
      refine astM X hw kdv_210 q46 dX8_asItIs_38 (fun H locs hw => ?_)
      obtain ⟨z47, ez47⟩ : ∃ y : Int32, y = x2 + 1 := ⟨_, rfl⟩
      replace hf := nmb hf ez47
      refine lv_iinc (v := z47) (lv' := [(2, .int z47), (0, .ref (b + 197)), (1, .int x1)]) hx hb dX8_asItIs_39 hl (k := 2) rfl (by rw [ez47]; rfl) (by decide) rfl (fun ls hl => ?_)
      refine lv_goto (tgt := 19) hx hb dX8_asItIs_42 (by decide) ?_
      exact ih x1 z47 M45 hf H locs ls hw (lv_sub hl [1, 2, 0] rfl)
set_option maxHeartbeats 4000000 in
set_option maxRecDepth 100000 in
theorem ctX8_asItIs (l : Launch) (E : EE) (b : Nat) {MC : Mem} {TC : Int64} {TM : Int64} {x1 : Int32} {M : Mem} {res : Mem}  (hf : gX8_asItIs x1 M = some res) : MetV l E b yX8_asItIs (.code yX8_asItIs cX8_asItIs 3 none) rmX8_asItIs [.ref (b + 197), .int x1] MC TC M TM MC TC res TM := by
  refine Met.ofW (cc := cX8_asItIs) (maxL := 3) (ret := none) (by decide) rfl ?_
  intro p e s m args below meth c s₁ B hml hv
  obtain ⟨rfl, hP, hK⟩ := hv
  have hx := B.exec
  have hb := B.bytes
  have X : CX E p s m _ c cX8_asItIs 3 RX8 := ⟨hx, hb, hml, findClass_of_methodNamed B.named, fun w h => atoms_spec (ws := _ :: wt) B.pre w (List.mem_cons_of_mem _ h), hK⟩
  have hr := B.returns
  have hlk := B.notSynchronized
  have hw : WW E b MC TC M TM s s.heap [] := ⟨hP, va_S.rf⟩
  have hl := lv_entry ([.ref (b + 197), .int x1]) (n := 3) (Nat.le_of_ble_eq_true rfl)
  rw [lg_entry_eq]
  generalize (lg_sl ([.ref (b + 197), .int x1]) ++ List.replicate (3 - (lg_sl ([.ref (b + 197), .int x1])).length) Slot.unset).toArray = ls at hl ⊢
  have hl : lv_has ls 3 [(0, .ref (b + 197)), (1, .int x1)] := hl
  obtain ⟨H, hH⟩ : ∃ H, H = s.heap := ⟨_, rfl⟩
  obtain ⟨locs, hL⟩ : ∃ L : List Loc, L = [] := ⟨_, rfl⟩
  rw [← hH, ← hL] at hw
  suffices hg : W p l e rmX8_asItIs s m _ below meth c H locs 0 0 (MQ below (va_Qv (fun (_ : Unit) => True) (fun _ t => PW E b MC TC res TM t) (AA b)) _ s 0 0 (AA b)) (F0 m 0 ls []) by rw [hH, hL] at hg; exact hg
  clear hH hL
  rw [gX8_asItIs] at hf
  refine lv_aload_n hx hb dX8_asItIs_0 rfl (lv_at hl 0 rfl) ?_
  refine lv_iconst (v := 0) hx hb dX8_asItIs_1 (by decide) ?_
  obtain ⟨M38, eM38, hf⟩ := ob hf
  refine pt_X8_28 X hw kk_197 mw_749 dX8_asItIs_2 (fun H locs hw => ?_)
  rw [Option.some.inj eM38] at hw
  refine lv_aload_n hx hb dX8_asItIs_5 rfl (lv_at hl 0 rfl) ?_
  refine lv_aload_n hx hb dX8_asItIs_6 rfl (lv_at hl 0 rfl) ?_
  refine gt_X8 X hw 5 kk_197 rfl (by decide) mw_726 rfl dX8_asItIs_7 ?_
  refine lv_iconst (v := 2) hx hb dX8_asItIs_10 (by decide) ?_
  refine lv_iload_n hx hb dX8_asItIs_11 rfl (lv_at hl 1 rfl) ?_
  refine lv_iadd hx hb dX8_asItIs_12 ?_
  obtain ⟨v39, q40, hf⟩ := ob hf
  refine aldM X hw kdv_201 q40 dX8_asItIs_13 ?_
  obtain ⟨M41, eM41, hf⟩ := ob hf
  refine pt_X8_29 X hw kk_197 mw_750 dX8_asItIs_14 (fun H locs hw => ?_)
  rw [Option.some.inj eM41] at hw
  refine lv_iconst (v := 0) hx hb dX8_asItIs_17 (by decide) ?_
  refine lv_istore_n (lv' := [(2, .int 0), (0, .ref (b + 197)), (1, .int x1)]) hx hb dX8_asItIs_18 rfl hl (by decide) rfl (fun ls hl => ?_)
  exact tX8_asItIs_19 X hr hlk FU x1 0 M41 hf H locs ls hw (lv_sub hl [1, 2, 0] rfl)

abbrev rmX8_growsTried : Room := { frames := 0, cells := 0, slots := 0, locals := 0 }
theorem hd_X8_growsTried : Hd yX8_growsTried RX8 1 := by decide +kernel
def gX8_growsTried_26   (x1 : Int32) (y0 : Int32) (y1 : Int32) (M : Mem) : Option (Mem) := (some (us M 197 28 (y1 + y0))).bind fun M49 => (stA 40 M49 210 (M49 197 29) x1).bind fun M50 => (some (us M50 197 29 ((M50 197 29) + 1))).bind fun M52 => some (M52)
def gX8_growsTried (x1 : Int32) (M : Mem) : Option (Mem) := if ((M 197 29) - (M 197 28)) = (M 197 4) then (gX8_growsTried_26 x1 1 (M 197 28) M) else (gX8_growsTried_26 x1 0 (M 197 28) M)
set_option maxHeartbeats 4000000 in
set_option maxRecDepth 100000 in
theorem tX8_growsTried_26 {p : Program} {l : Launch} {e : Env} {s : State} {m : MethodId} {args : Array Value} {below : List Frame} {meth : Method} {c : Code} {E : EE} {b : Nat} {MC : Mem} {TC : Int64} {TM : Int64} {res : Mem} (X : CX E p s m args c cX8_growsTried 2 RX8) (hr : meth.sig.returnType = none) (hlk : meth.locks = false)    : ∀ (x1 : Int32) (y0 : Int32) (y1 : Int32) (M : Mem), gX8_growsTried_26 x1 y0 y1 M = some res → ∀ (H : Heap) (locs : List Loc) (ls : Array Slot), WW E b MC TC M TM s H locs → lv_has ls 2 [(0, .ref (b + 197)), (1, .int x1)] → W p l e rmX8_growsTried s m args below meth c H locs 0 0 (MQ below (va_Qv (fun (_ : Unit) => True) (fun _ t => PW E b MC TC res TM t) (AA b)) args s 0 0 (AA b)) (F0 m 26 ls [.int y0, .int y1, .ref (b + 197)]) := by
  have hx := X.1
  have hb := X.2.1
  intro x1 y0 y1 M hf H locs ls hw hl
  rw [gX8_growsTried_26] at hf
  refine lv_iadd hx hb dX8_growsTried_26 ?_
  obtain ⟨M49, eM49, hf⟩ := ob hf
  refine pt_X8_28 X hw kk_197 mw_749 dX8_growsTried_27 (fun H locs hw => ?_)
  rw [Option.some.inj eM49] at hw
  refine lv_aload_n hx hb dX8_growsTried_30 rfl (lv_at hl 0 rfl) ?_
  refine gt_X8 X hw 27 kk_197 rfl (by decide) mw_748 rfl dX8_growsTried_31 ?_
  refine lv_aload_n hx hb dX8_growsTried_34 rfl (lv_at hl 0 rfl) ?_
  refine gt_X8 X hw 29 kk_197 rfl (by decide) mw_750 rfl dX8_growsTried_35 ?_
  refine lv_iload_n hx hb dX8_growsTried_38 rfl (lv_at hl 1 rfl) ?_
  obtain ⟨M50, q51, hf⟩ := ob hf
  refine astM X hw kdv_210 q51 dX8_growsTried_39 (fun H locs hw => ?_)
  refine lv_aload_n hx hb dX8_growsTried_40 rfl (lv_at hl 0 rfl) ?_
  refine lv_dup hx hb dX8_growsTried_41 rfl ?_
  refine gt_X8 X hw 29 kk_197 rfl (by decide) mw_750 rfl dX8_growsTried_42 ?_
  refine lv_iconst (v := 1) hx hb dX8_growsTried_45 (by decide) ?_
  refine lv_iadd hx hb dX8_growsTried_46 ?_
  obtain ⟨M52, eM52, hf⟩ := ob hf
  refine pt_X8_29 X hw kk_197 mw_750 dX8_growsTried_47 (fun H locs hw => ?_)
  rw [Option.some.inj eM52] at hw
  replace hf := Option.some.inj hf
  subst hf
  exact eV X hw hr hlk dX8_growsTried_50
set_option maxHeartbeats 4000000 in
set_option maxRecDepth 100000 in
theorem ctX8_growsTried (l : Launch) (E : EE) (b : Nat) {MC : Mem} {TC : Int64} {TM : Int64} {x1 : Int32} {M : Mem} {res : Mem}  (hf : gX8_growsTried x1 M = some res) : MetV l E b yX8_growsTried (.code yX8_growsTried cX8_growsTried 2 none) rmX8_growsTried [.ref (b + 197), .int x1] MC TC M TM MC TC res TM := by
  refine Met.ofW (cc := cX8_growsTried) (maxL := 2) (ret := none) (by decide) rfl ?_
  intro p e s m args below meth c s₁ B hml hv
  obtain ⟨rfl, hP, hK⟩ := hv
  have hx := B.exec
  have hb := B.bytes
  have X : CX E p s m _ c cX8_growsTried 2 RX8 := ⟨hx, hb, hml, findClass_of_methodNamed B.named, fun w h => atoms_spec (ws := _ :: wt) B.pre w (List.mem_cons_of_mem _ h), hK⟩
  have hr := B.returns
  have hlk := B.notSynchronized
  have hw : WW E b MC TC M TM s s.heap [] := ⟨hP, va_S.rf⟩
  have hl := lv_entry ([.ref (b + 197), .int x1]) (n := 2) (Nat.le_of_ble_eq_true rfl)
  rw [lg_entry_eq]
  generalize (lg_sl ([.ref (b + 197), .int x1]) ++ List.replicate (2 - (lg_sl ([.ref (b + 197), .int x1])).length) Slot.unset).toArray = ls at hl ⊢
  have hl : lv_has ls 2 [(0, .ref (b + 197)), (1, .int x1)] := hl
  obtain ⟨H, hH⟩ : ∃ H, H = s.heap := ⟨_, rfl⟩
  obtain ⟨locs, hL⟩ : ∃ L : List Loc, L = [] := ⟨_, rfl⟩
  rw [← hH, ← hL] at hw
  suffices hg : W p l e rmX8_growsTried s m _ below meth c H locs 0 0 (MQ below (va_Qv (fun (_ : Unit) => True) (fun _ t => PW E b MC TC res TM t) (AA b)) _ s 0 0 (AA b)) (F0 m 0 ls []) by rw [hH, hL] at hg; exact hg
  clear hH hL
  rw [gX8_growsTried] at hf
  refine lv_aload_n hx hb dX8_growsTried_0 rfl (lv_at hl 0 rfl) ?_
  refine lv_dup hx hb dX8_growsTried_1 rfl ?_
  refine gt_X8 X hw 28 kk_197 rfl (by decide) mw_749 rfl dX8_growsTried_2 ?_
  refine lv_aload_n hx hb dX8_growsTried_5 rfl (lv_at hl 0 rfl) ?_
  refine gt_X8 X hw 29 kk_197 rfl (by decide) mw_750 rfl dX8_growsTried_6 ?_
  refine lv_aload_n hx hb dX8_growsTried_9 rfl (lv_at hl 0 rfl) ?_
  refine gt_X8 X hw 28 kk_197 rfl (by decide) mw_749 rfl dX8_growsTried_10 ?_
  refine lv_isub hx hb dX8_growsTried_13 ?_
  refine lv_aload_n hx hb dX8_growsTried_14 rfl (lv_at hl 0 rfl) ?_
  refine gt_X8 X hw 4 kk_197 rfl (by decide) mw_725 rfl dX8_growsTried_15 ?_
  refine lv_icmp_ne (tgt := 25) hx hb dX8_growsTried_18 (by decide) (fun c48 => ?_) (fun c48 => ?_)
  · replace hf := (if_neg c48).symm.trans hf
    refine lv_iconst (v := 0) hx hb dX8_growsTried_25 (by decide) ?_
    exact tX8_growsTried_26 X hr hlk x1 0 (M 197 28) M hf H locs ls hw (lv_sub hl [0, 1] rfl)
  · replace hf := (if_pos c48).symm.trans hf
    refine lv_iconst (v := 1) hx hb dX8_growsTried_21 (by decide) ?_
    refine lv_goto (tgt := 26) hx hb dX8_growsTried_22 (by decide) ?_
    exact tX8_growsTried_26 X hr hlk x1 1 (M 197 28) M hf H locs ls hw (lv_sub hl [0, 1] rfl)

abbrev rmX8_plan : Room := { frames := 2, cells := 0, slots := 0, locals := 44 }
theorem hd_X8_plan : Hd yX8_plan RX8 4 := by decide +kernel
def gX8_plan_172   (y0 : Int32) (M : Mem) : Option (Int32 × Mem) := some (y0, M)
def gX8_plan_153   (y0 : Int32) (M : Mem) : Option (Int32 × Mem) := some (y0, M)
def gX8_plan_126  (k51 : Int32 → Int32 → Int32 → Int32 → Int32 → Int32 → Mem → Option (Int32 × Mem)) (x1 : Int32) (x2 : Int32) (x3 : Int32) (x4 : Int32) (x5 : Int32) (x6 : Int32) (M : Mem) : Option (Int32 × Mem) := if ((M 197 29) - (M 197 28)) ≤ x3 then ((some (x6 + 1)).bind fun z75 => k51 x1 x2 x3 x4 x5 z75 M) else (if x4 = 0 then (gX8_plan_153 ((-9)) M) else (gX8_plan_153 (x6 + 1) M))
def gX8_plan_123  (k51 : Int32 → Int32 → Int32 → Int32 → Int32 → Int32 → Mem → Option (Int32 × Mem)) (x1 : Int32) (x2 : Int32) (x3 : Int32) (x4 : Int32) (x5 : Int32) (x6 : Int32) (M : Mem) : Option (Int32 × Mem) := (some (x5 + 1)).bind fun z78 => gX8_plan_126 k51 x1 x2 x3 x4 z78 x6 M
def gX8_plan_81  (k51 : Int32 → Int32 → Int32 → Int32 → Int32 → Int32 → Mem → Option (Int32 × Mem)) : Nat → Int32 → Int32 → Int32 → Int32 → Int32 → Int32 → Mem → Option (Int32 × Mem)
  | 0, _, _, _, _, _, _, _ => none
  | n + 1, x1, x2, x3, x4, x5, x6, M => if (M 197 29) ≤ (M 197 28) then (gX8_plan_123 k51 x1 x2 x3 x4 x5 x6 M) else ((ldA 40 (M 210) (M 197 28)).bind fun v79 => (ldA 5 (M 198) x1).bind fun v81 => if v79 = v81 then (gX8_plan_123 k51 x1 x2 x3 x4 x5 x6 M) else ((some (us M 197 28 ((M 197 28) + 1))).bind fun M84 => (gX8_plan_81 k51 n) x1 x2 x3 x4 x5 x6 M84))
def gX8_plan_51   : Nat → Int32 → Int32 → Int32 → Int32 → Int32 → Int32 → Mem → Option (Int32 × Mem)
  | 0, _, _, _, _, _, _, _ => none
  | n + 1, x1, x2, x3, x4, x5, x6, M => if x2 ≤ x6 then (if x4 = 0 then (gX8_plan_172 x5 M) else (gX8_plan_172 ((-9)) M)) else ((gX8_thinks x1 x6 M).bind fun u69 => (gX8_growsTried u69 M).bind fun u71 => if ((u71 197 29) - (u71 197 28)) ≤ x3 then (gX8_plan_126 (gX8_plan_51 n) x1 x2 x3 x4 x5 x6 u71) else (gX8_plan_81 (gX8_plan_51 n) FU x1 x2 x3 x4 x5 x6 u71))
def gX8_plan (x1 : Int32) (x2 : Int32) (x3 : Int32) (x4 : Int32) (M : Mem) : Option (Int32 × Mem) := (gX8_isOne x1 M).bind fun u53 => if u53 = 0 then (some ((-1), M)) else ((gX8_in x2 1 20).bind fun u56 => if u56 = 0 then (some ((-1), M)) else ((gX8_in x3 1 12).bind fun u59 => if u59 = 0 then (some ((-1), M)) else ((gX8_in x4 0 1).bind fun u62 => if u62 = 0 then (some ((-1), M)) else ((gX8_asItIs x1 M).bind fun u65 => gX8_plan_51 FU x1 x2 x3 x4 0 0 u65))))
set_option maxHeartbeats 4000000 in
set_option maxRecDepth 100000 in
theorem tX8_plan_172 {p : Program} {l : Launch} {e : Env} {s : State} {m : MethodId} {args : Array Value} {below : List Frame} {meth : Method} {c : Code} {E : EE} {b : Nat} {MC : Mem} {TC : Int64} {TM : Int64} {res : Int32 × Mem} (X : CX E p s m args c cX8_plan 7 RX8) (hr : meth.sig.returnType = (some .int)) (hlk : meth.locks = false)    : ∀ (y0 : Int32) (M : Mem), gX8_plan_172 y0 M = some res → ∀ (H : Heap) (locs : List Loc) (ls : Array Slot), WW E b MC TC M TM s H locs → lv_has ls 7 [] → W p l e rmX8_plan s m args below meth c H locs 0 0 (MQ below (va_Qi (fun x (_ : Unit) => x = res.1) (fun _ t => PW E b MC TC res.2 TM t) (AA b)) args s 0 0 (AA b)) (F0 m 172 ls [.int y0]) := by
  have hx := X.1
  have hb := X.2.1
  intro y0 M hf H locs ls hw hl
  rw [gX8_plan_172] at hf
  replace hf := Option.some.inj hf
  subst hf
  exact eI X hw hr hlk dX8_plan_172
set_option maxHeartbeats 4000000 in
set_option maxRecDepth 100000 in
theorem tX8_plan_153 {p : Program} {l : Launch} {e : Env} {s : State} {m : MethodId} {args : Array Value} {below : List Frame} {meth : Method} {c : Code} {E : EE} {b : Nat} {MC : Mem} {TC : Int64} {TM : Int64} {res : Int32 × Mem} (X : CX E p s m args c cX8_plan 7 RX8) (hr : meth.sig.returnType = (some .int)) (hlk : meth.locks = false)    : ∀ (y0 : Int32) (M : Mem), gX8_plan_153 y0 M = some res → ∀ (H : Heap) (locs : List Loc) (ls : Array Slot), WW E b MC TC M TM s H locs → lv_has ls 7 [] → W p l e rmX8_plan s m args below meth c H locs 0 0 (MQ below (va_Qi (fun x (_ : Unit) => x = res.1) (fun _ t => PW E b MC TC res.2 TM t) (AA b)) args s 0 0 (AA b)) (F0 m 153 ls [.int y0]) := by
  have hx := X.1
  have hb := X.2.1
  intro y0 M hf H locs ls hw hl
  rw [gX8_plan_153] at hf
  replace hf := Option.some.inj hf
  subst hf
  exact eI X hw hr hlk dX8_plan_153
set_option maxHeartbeats 4000000 in
set_option maxRecDepth 100000 in
theorem tX8_plan_126 {p : Program} {l : Launch} {e : Env} {s : State} {m : MethodId} {args : Array Value} {below : List Frame} {meth : Method} {c : Code} {E : EE} {b : Nat} {MC : Mem} {TC : Int64} {TM : Int64} {res : Int32 × Mem} (X : CX E p s m args c cX8_plan 7 RX8) (hr : meth.sig.returnType = (some .int)) (hlk : meth.locks = false)   {k51 : Int32 → Int32 → Int32 → Int32 → Int32 → Int32 → Mem → Option (Int32 × Mem)} (hk51 : ∀ (x1 : Int32) (x2 : Int32) (x3 : Int32) (x4 : Int32) (x5 : Int32) (x6 : Int32) (M : Mem), k51 x1 x2 x3 x4 x5 x6 M = some res → ∀ (H : Heap) (locs : List Loc) (ls : Array Slot), WW E b MC TC M TM s H locs → lv_has ls 7 [(0, .ref (b + 197)), (1, .int x1), (2, .int x2), (3, .int x3), (4, .int x4), (5, .int x5), (6, .int x6)] → W p l e rmX8_plan s m args below meth c H locs 0 0 (MQ below (va_Qi (fun x (_ : Unit) => x = res.1) (fun _ t => PW E b MC TC res.2 TM t) (AA b)) args s 0 0 (AA b)) (F0 m 51 ls [])) : ∀ (x1 : Int32) (x2 : Int32) (x3 : Int32) (x4 : Int32) (x5 : Int32) (x6 : Int32) (M : Mem), gX8_plan_126 k51 x1 x2 x3 x4 x5 x6 M = some res → ∀ (H : Heap) (locs : List Loc) (ls : Array Slot), WW E b MC TC M TM s H locs → lv_has ls 7 [(0, .ref (b + 197)), (1, .int x1), (2, .int x2), (3, .int x3), (4, .int x4), (5, .int x5), (6, .int x6)] → W p l e rmX8_plan s m args below meth c H locs 0 0 (MQ below (va_Qi (fun x (_ : Unit) => x = res.1) (fun _ t => PW E b MC TC res.2 TM t) (AA b)) args s 0 0 (AA b)) (F0 m 126 ls []) := by
  have hx := X.1
  have hb := X.2.1
  intro x1 x2 x3 x4 x5 x6 M hf H locs ls hw hl
  rw [gX8_plan_126] at hf
  refine lv_aload_n hx hb dX8_plan_126 rfl (lv_at hl 0 rfl) ?_
  refine gt_X8 X hw 29 kk_197 rfl (by decide) mw_750 rfl dX8_plan_127 ?_
  refine lv_aload_n hx hb dX8_plan_130 rfl (lv_at hl 0 rfl) ?_
  refine gt_X8 X hw 28 kk_197 rfl (by decide) mw_749 rfl dX8_plan_131 ?_
  refine lv_isub hx hb dX8_plan_134 ?_
  refine lv_iload_n hx hb dX8_plan_135 rfl (lv_at hl 3 rfl) ?_
  refine lv_icmp_le (tgt := 154) hx hb dX8_plan_136 (by decide) (fun c74 => ?_) (fun c74 => ?_)
  · replace hf := (if_pos c74).symm.trans hf
    obtain ⟨z75, ez75⟩ : ∃ y : Int32, y = x6 + 1 := ⟨_, rfl⟩
    replace hf := nmb hf ez75
    refine lv_iinc (v := z75) (lv' := [(6, .int z75), (0, .ref (b + 197)), (1, .int x1), (2, .int x2), (3, .int x3), (4, .int x4), (5, .int x5)]) hx hb dX8_plan_154 hl (k := 6) rfl (by rw [ez75]; rfl) (by decide) rfl (fun ls hl => ?_)
    refine lv_goto (tgt := 51) hx hb dX8_plan_157 (by decide) ?_
    exact hk51 x1 x2 x3 x4 x5 z75 M hf H locs ls hw (lv_sub hl [1, 2, 3, 4, 5, 6, 0] rfl)
  · replace hf := (if_neg c74).symm.trans hf
    refine lv_iload hx hb dX8_plan_139 (lv_at hl 4 rfl) ?_
    refine lv_if_ne (tgt := 149) hx hb dX8_plan_141 (by decide) (fun c76 => ?_) (fun c76 => ?_)
    · replace hf := (if_neg c76).symm.trans hf
      refine lv_iload hx hb dX8_plan_149 (lv_at hl 6 rfl) ?_
      refine lv_iconst (v := 1) hx hb dX8_plan_151 (by decide) ?_
      refine lv_iadd hx hb dX8_plan_152 ?_
      exact tX8_plan_153 X hr hlk (x6 + 1) M hf H locs ls hw (lv_sub hl [] rfl)
    · replace hf := (if_pos c76).symm.trans hf
      refine lv_bipush (v := (-9)) hx hb dX8_plan_144 (by decide) ?_
      refine lv_goto (tgt := 153) hx hb dX8_plan_146 (by decide) ?_
      exact tX8_plan_153 X hr hlk ((-9)) M hf H locs ls hw (lv_sub hl [] rfl)
set_option maxHeartbeats 4000000 in
set_option maxRecDepth 100000 in
theorem tX8_plan_123 {p : Program} {l : Launch} {e : Env} {s : State} {m : MethodId} {args : Array Value} {below : List Frame} {meth : Method} {c : Code} {E : EE} {b : Nat} {MC : Mem} {TC : Int64} {TM : Int64} {res : Int32 × Mem} (X : CX E p s m args c cX8_plan 7 RX8) (hr : meth.sig.returnType = (some .int)) (hlk : meth.locks = false)   {k51 : Int32 → Int32 → Int32 → Int32 → Int32 → Int32 → Mem → Option (Int32 × Mem)} (hk51 : ∀ (x1 : Int32) (x2 : Int32) (x3 : Int32) (x4 : Int32) (x5 : Int32) (x6 : Int32) (M : Mem), k51 x1 x2 x3 x4 x5 x6 M = some res → ∀ (H : Heap) (locs : List Loc) (ls : Array Slot), WW E b MC TC M TM s H locs → lv_has ls 7 [(0, .ref (b + 197)), (1, .int x1), (2, .int x2), (3, .int x3), (4, .int x4), (5, .int x5), (6, .int x6)] → W p l e rmX8_plan s m args below meth c H locs 0 0 (MQ below (va_Qi (fun x (_ : Unit) => x = res.1) (fun _ t => PW E b MC TC res.2 TM t) (AA b)) args s 0 0 (AA b)) (F0 m 51 ls [])) : ∀ (x1 : Int32) (x2 : Int32) (x3 : Int32) (x4 : Int32) (x5 : Int32) (x6 : Int32) (M : Mem), gX8_plan_123 k51 x1 x2 x3 x4 x5 x6 M = some res → ∀ (H : Heap) (locs : List Loc) (ls : Array Slot), WW E b MC TC M TM s H locs → lv_has ls 7 [(0, .ref (b + 197)), (1, .int x1), (2, .int x2), (3, .int x3), (4, .int x4), (5, .int x5), (6, .int x6)] → W p l e rmX8_plan s m args below meth c H locs 0 0 (MQ below (va_Qi (fun x (_ : Unit) => x = res.1) (fun _ t => PW E b MC TC res.2 TM t) (AA b)) args s 0 0 (AA b)) (F0 m 123 ls []) := by
  have hx := X.1
  have hb := X.2.1
  intro x1 x2 x3 x4 x5 x6 M hf H locs ls hw hl
  rw [gX8_plan_123] at hf
  obtain ⟨z78, ez78⟩ : ∃ y : Int32, y = x5 + 1 := ⟨_, rfl⟩
  replace hf := nmb hf ez78
  refine lv_iinc (v := z78) (lv' := [(5, .int z78), (0, .ref (b + 197)), (1, .int x1), (2, .int x2), (3, .int x3), (4, .int x4), (6, .int x6)]) hx hb dX8_plan_123 hl (k := 5) rfl (by rw [ez78]; rfl) (by decide) rfl (fun ls hl => ?_)
  exact tX8_plan_126 X hr hlk hk51 x1 x2 x3 x4 z78 x6 M hf H locs ls hw (lv_sub hl [1, 2, 3, 4, 5, 0, 6] rfl)
set_option maxHeartbeats 4000000 in
set_option maxRecDepth 100000 in
theorem tX8_plan_81 {p : Program} {l : Launch} {e : Env} {s : State} {m : MethodId} {args : Array Value} {below : List Frame} {meth : Method} {c : Code} {E : EE} {b : Nat} {MC : Mem} {TC : Int64} {TM : Int64} {res : Int32 × Mem} (X : CX E p s m args c cX8_plan 7 RX8) (hr : meth.sig.returnType = (some .int)) (hlk : meth.locks = false)   {k51 : Int32 → Int32 → Int32 → Int32 → Int32 → Int32 → Mem → Option (Int32 × Mem)} (hk51 : ∀ (x1 : Int32) (x2 : Int32) (x3 : Int32) (x4 : Int32) (x5 : Int32) (x6 : Int32) (M : Mem), k51 x1 x2 x3 x4 x5 x6 M = some res → ∀ (H : Heap) (locs : List Loc) (ls : Array Slot), WW E b MC TC M TM s H locs → lv_has ls 7 [(0, .ref (b + 197)), (1, .int x1), (2, .int x2), (3, .int x3), (4, .int x4), (5, .int x5), (6, .int x6)] → W p l e rmX8_plan s m args below meth c H locs 0 0 (MQ below (va_Qi (fun x (_ : Unit) => x = res.1) (fun _ t => PW E b MC TC res.2 TM t) (AA b)) args s 0 0 (AA b)) (F0 m 51 ls [])) : ∀ (n : Nat) (x1 : Int32) (x2 : Int32) (x3 : Int32) (x4 : Int32) (x5 : Int32) (x6 : Int32) (M : Mem), gX8_plan_81 k51 n x1 x2 x3 x4 x5 x6 M = some res → ∀ (H : Heap) (locs : List Loc) (ls : Array Slot), WW E b MC TC M TM s H locs → lv_has ls 7 [(0, .ref (b + 197)), (1, .int x1), (2, .int x2), (3, .int x3), (4, .int x4), (5, .int x5), (6, .int x6)] → W p l e rmX8_plan s m args below meth c H locs 0 0 (MQ below (va_Qi (fun x (_ : Unit) => x = res.1) (fun _ t => PW E b MC TC res.2 TM t) (AA b)) args s 0 0 (AA b)) (F0 m 81 ls []) := by
  have hx := X.1
  have hb := X.2.1
  intro n
  induction n with
  | zero =>
    intro x1 x2 x3 x4 x5 x6 M hf
    cases (show (none : Option (Int32 × Mem)) = some res from hf)
  | succ n ih =>
    intro x1 x2 x3 x4 x5 x6 M hf H locs ls hw hl
    rw [gX8_plan_81] at hf
    refine lv_aload_n hx hb dX8_plan_81 rfl (lv_at hl 0 rfl) ?_
    refine gt_X8 X hw 28 kk_197 rfl (by decide) mw_749 rfl dX8_plan_82 ?_
    refine lv_aload_n hx hb dX8_plan_85 rfl (lv_at hl 0 rfl) ?_
    refine gt_X8 X hw 29 kk_197 rfl (by decide) mw_750 rfl dX8_plan_86 ?_
    refine lv_icmp_ge (tgt := 123) hx hb dX8_plan_89 (by decide) (fun c77 => ?_) (fun c77 => ?_)
    · replace hf := (if_pos c77).symm.trans hf
      exact tX8_plan_123 X hr hlk hk51 x1 x2 x3 x4 x5 x6 M hf H locs ls hw (lv_sub hl [0, 1, 2, 3, 4, 5, 6] rfl)
    · replace hf := (if_neg c77).symm.trans hf
      refine lv_aload_n hx hb dX8_plan_92 rfl (lv_at hl 0 rfl) ?_
      refine gt_X8 X hw 27 kk_197 rfl (by decide) mw_748 rfl dX8_plan_93 ?_
      refine lv_aload_n hx hb dX8_plan_96 rfl (lv_at hl 0 rfl) ?_
      refine gt_X8 X hw 28 kk_197 rfl (by decide) mw_749 rfl dX8_plan_97 ?_
      obtain ⟨v79, q80, hf⟩ := ob hf
      refine aldM X hw kdv_210 q80 dX8_plan_100 ?_
      refine lv_aload_n hx hb dX8_plan_101 rfl (lv_at hl 0 rfl) ?_
      refine gt_X8 X hw 1 kk_197 rfl (by decide) mw_722 rfl dX8_plan_102 ?_
      refine lv_iload_n hx hb dX8_plan_105 rfl (lv_at hl 1 rfl) ?_
      obtain ⟨v81, q82, hf⟩ := ob hf
      refine aldM X hw kdv_198 q82 dX8_plan_106 ?_
      refine lv_icmp_eq (tgt := 123) hx hb dX8_plan_107 (by decide) (fun c83 => ?_) (fun c83 => ?_)
      · replace hf := (if_pos c83).symm.trans hf
        exact tX8_plan_123 X hr hlk hk51 x1 x2 x3 x4 x5 x6 M hf H locs ls hw (lv_sub hl [0, 1, 2, 3, 4, 5, 6] rfl)
      · replace hf := (if_neg c83).symm.trans hf
        refine lv_aload_n hx hb dX8_plan_110 rfl (lv_at hl 0 rfl) ?_
        refine lv_dup hx hb dX8_plan_111 rfl ?_
        refine gt_X8 X hw 28 kk_197 rfl (by decide) mw_749 rfl dX8_plan_112 ?_
        refine lv_iconst (v := 1) hx hb dX8_plan_115 (by decide) ?_
        refine lv_iadd hx hb dX8_plan_116 ?_
        obtain ⟨M84, eM84, hf⟩ := ob hf
        refine pt_X8_28 X hw kk_197 mw_749 dX8_plan_117 (fun H locs hw => ?_)
        rw [Option.some.inj eM84] at hw
        refine lv_goto (tgt := 81) hx hb dX8_plan_120 (by decide) ?_
        exact ih x1 x2 x3 x4 x5 x6 M84 hf H locs ls hw (lv_sub hl [0, 1, 2, 3, 4, 5, 6] rfl)
set_option maxHeartbeats 4000000 in
set_option maxRecDepth 100000 in
theorem tX8_plan_51 {p : Program} {l : Launch} {e : Env} {s : State} {m : MethodId} {args : Array Value} {below : List Frame} {meth : Method} {c : Code} {E : EE} {b : Nat} {MC : Mem} {TC : Int64} {TM : Int64} {res : Int32 × Mem} (X : CX E p s m args c cX8_plan 7 RX8) (hr : meth.sig.returnType = (some .int)) (hlk : meth.locks = false)    : ∀ (n : Nat) (x1 : Int32) (x2 : Int32) (x3 : Int32) (x4 : Int32) (x5 : Int32) (x6 : Int32) (M : Mem), gX8_plan_51 n x1 x2 x3 x4 x5 x6 M = some res → ∀ (H : Heap) (locs : List Loc) (ls : Array Slot), WW E b MC TC M TM s H locs → lv_has ls 7 [(0, .ref (b + 197)), (1, .int x1), (2, .int x2), (3, .int x3), (4, .int x4), (5, .int x5), (6, .int x6)] → W p l e rmX8_plan s m args below meth c H locs 0 0 (MQ below (va_Qi (fun x (_ : Unit) => x = res.1) (fun _ t => PW E b MC TC res.2 TM t) (AA b)) args s 0 0 (AA b)) (F0 m 51 ls []) := by
  have hx := X.1
  have hb := X.2.1
  intro n
  induction n with
  | zero =>
    intro x1 x2 x3 x4 x5 x6 M hf
    cases (show (none : Option (Int32 × Mem)) = some res from hf)
  | succ n ih =>
    intro x1 x2 x3 x4 x5 x6 M hf H locs ls hw hl
    rw [gX8_plan_51] at hf
    refine lv_iload hx hb dX8_plan_51 (lv_at hl 6 rfl) ?_
    refine lv_iload_n hx hb dX8_plan_53 rfl (lv_at hl 2 rfl) ?_
    refine lv_icmp_ge (tgt := 160) hx hb dX8_plan_54 (by decide) (fun c67 => ?_) (fun c67 => ?_)
    · replace hf := (if_pos c67).symm.trans hf
      refine lv_iload hx hb dX8_plan_160 (lv_at hl 4 rfl) ?_
      refine lv_if_ne (tgt := 170) hx hb dX8_plan_162 (by decide) (fun c68 => ?_) (fun c68 => ?_)
      · replace hf := (if_neg c68).symm.trans hf
        refine lv_bipush (v := (-9)) hx hb dX8_plan_170 (by decide) ?_
        exact tX8_plan_172 X hr hlk ((-9)) M hf H locs ls hw (lv_sub hl [] rfl)
      · replace hf := (if_pos c68).symm.trans hf
        refine lv_iload hx hb dX8_plan_165 (lv_at hl 5 rfl) ?_
        refine lv_goto (tgt := 172) hx hb dX8_plan_167 (by decide) ?_
        exact tX8_plan_172 X hr hlk x5 M hf H locs ls hw (lv_sub hl [] rfl)
    · replace hf := (if_neg c67).symm.trans hf
      refine lv_aload_n hx hb dX8_plan_57 rfl (lv_at hl 0 rfl) ?_
      refine lv_aload_n hx hb dX8_plan_58 rfl (lv_at hl 0 rfl) ?_
      refine lv_iload_n hx hb dX8_plan_59 rfl (lv_at hl 1 rfl) ?_
      refine lv_iload hx hb dX8_plan_60 (lv_at hl 6 rfl) ?_
      obtain ⟨u69, q70, hf⟩ := ob hf
      refine cVi (As := [.int x1, .int x6]) X hw (ctX8_thinks l E b  q70) ⟨mw_910, mw_912, mw_42, mw_61, mw_913⟩ hd_X8_thinks ⟨Nat.le_of_ble_eq_true rfl, Nat.le_of_ble_eq_true rfl, rfl, rfl⟩ (kdk kk_197 (by decide)) (ce_X8 E _ _ _ _ kk_197) (show vwCl[8]? = some (RX8, TX8, 31) from rfl) rfl hl.1 rfl (Nat.le_of_ble_eq_true rfl) dX8_plan_62 (fun H locs hw => ?_)
      obtain ⟨u71, q72, hf⟩ := ob hf
      refine cVv (As := [.int u69]) X hw (ctX8_growsTried l E b  q72) ⟨mw_958, mw_960, mw_46, mw_61, mw_961⟩ hd_X8_growsTried ⟨Nat.le_of_ble_eq_true rfl, Nat.le_of_ble_eq_true rfl, rfl, rfl⟩ (kdk kk_197 (by decide)) (ce_X8 E _ _ _ _ kk_197) (show vwCl[8]? = some (RX8, TX8, 31) from rfl) rfl hl.1 rfl (Nat.le_of_ble_eq_true rfl) dX8_plan_65 (fun H locs hw => ?_)
      refine lv_aload_n hx hb dX8_plan_68 rfl (lv_at hl 0 rfl) ?_
      refine gt_X8 X hw 29 kk_197 rfl (by decide) mw_750 rfl dX8_plan_69 ?_
      refine lv_aload_n hx hb dX8_plan_72 rfl (lv_at hl 0 rfl) ?_
      refine gt_X8 X hw 28 kk_197 rfl (by decide) mw_749 rfl dX8_plan_73 ?_
      refine lv_isub hx hb dX8_plan_76 ?_
      refine lv_iload_n hx hb dX8_plan_77 rfl (lv_at hl 3 rfl) ?_
      refine lv_icmp_le (tgt := 126) hx hb dX8_plan_78 (by decide) (fun c73 => ?_) (fun c73 => ?_)
      · replace hf := (if_pos c73).symm.trans hf
        exact tX8_plan_126 X hr hlk ih x1 x2 x3 x4 x5 x6 u71 hf H locs ls hw (lv_sub hl [0, 1, 2, 3, 4, 5, 6] rfl)
      · replace hf := (if_neg c73).symm.trans hf
        exact tX8_plan_81 X hr hlk ih FU x1 x2 x3 x4 x5 x6 u71 hf H locs ls hw (lv_sub hl [0, 1, 2, 3, 4, 5, 6] rfl)
set_option maxHeartbeats 4000000 in
set_option maxRecDepth 100000 in
theorem ctX8_plan (l : Launch) (E : EE) (b : Nat) {MC : Mem} {TC : Int64} {TM : Int64} {x1 : Int32} {x2 : Int32} {x3 : Int32} {x4 : Int32} {M : Mem} {res : Int32 × Mem}  (hf : gX8_plan x1 x2 x3 x4 M = some res) : MetI l E b yX8_plan (.code yX8_plan cX8_plan 7 (some .int)) rmX8_plan [.ref (b + 197), .int x1, .int x2, .int x3, .int x4] MC TC M TM res.1 MC TC res.2 TM := by
  refine Met.ofW (cc := cX8_plan) (maxL := 7) (ret := (some .int)) (by decide) rfl ?_
  intro p e s m args below meth c s₁ B hml hv
  obtain ⟨rfl, hP, hK⟩ := hv
  have hx := B.exec
  have hb := B.bytes
  have X : CX E p s m _ c cX8_plan 7 RX8 := ⟨hx, hb, hml, findClass_of_methodNamed B.named, fun w h => atoms_spec (ws := _ :: wt) B.pre w (List.mem_cons_of_mem _ h), hK⟩
  have hr := B.returns
  have hlk := B.notSynchronized
  have hw : WW E b MC TC M TM s s.heap [] := ⟨hP, va_S.rf⟩
  have hl := lv_entry ([.ref (b + 197), .int x1, .int x2, .int x3, .int x4]) (n := 7) (Nat.le_of_ble_eq_true rfl)
  rw [lg_entry_eq]
  generalize (lg_sl ([.ref (b + 197), .int x1, .int x2, .int x3, .int x4]) ++ List.replicate (7 - (lg_sl ([.ref (b + 197), .int x1, .int x2, .int x3, .int x4])).length) Slot.unset).toArray = ls at hl ⊢
  have hl : lv_has ls 7 [(0, .ref (b + 197)), (1, .int x1), (2, .int x2), (3, .int x3), (4, .int x4)] := hl
  obtain ⟨H, hH⟩ : ∃ H, H = s.heap := ⟨_, rfl⟩
  obtain ⟨locs, hL⟩ : ∃ L : List Loc, L = [] := ⟨_, rfl⟩
  rw [← hH, ← hL] at hw
  suffices hg : W p l e rmX8_plan s m _ below meth c H locs 0 0 (MQ below (va_Qi (fun x (_ : Unit) => x = res.1) (fun _ t => PW E b MC TC res.2 TM t) (AA b)) _ s 0 0 (AA b)) (F0 m 0 ls []) by rw [hH, hL] at hg; exact hg
  clear hH hL
  rw [gX8_plan] at hf
  refine lv_aload_n hx hb dX8_plan_0 rfl (lv_at hl 0 rfl) ?_
  refine lv_iload_n hx hb dX8_plan_1 rfl (lv_at hl 1 rfl) ?_
  obtain ⟨u53, q54, hf⟩ := ob hf
  refine cVi (As := [.int x1]) X hw (ctX8_isOne l E b  q54) ⟨mw_868, mw_870, mw_37, mw_61, mw_871⟩ hd_X8_isOne ⟨Nat.le_of_ble_eq_true rfl, Nat.le_of_ble_eq_true rfl, rfl, rfl⟩ (kdk kk_197 (by decide)) (ce_X8 E _ _ _ _ kk_197) (show vwCl[8]? = some (RX8, TX8, 31) from rfl) rfl hl.1 rfl (Nat.le_of_ble_eq_true rfl) dX8_plan_2 (fun H locs hw => ?_)
  refine lv_if_eq (tgt := 38) hx hb dX8_plan_5 (by decide) (fun c55 => ?_) (fun c55 => ?_)
  · replace hf := (if_pos c55).symm.trans hf
    refine lv_iconst (v := (-1)) hx hb dX8_plan_38 (by decide) ?_
    replace hf := Option.some.inj hf
    subst hf
    exact eI X hw hr hlk dX8_plan_39
  · replace hf := (if_neg c55).symm.trans hf
    refine lv_iload_n hx hb dX8_plan_8 rfl (lv_at hl 2 rfl) ?_
    refine lv_iconst (v := 1) hx hb dX8_plan_9 (by decide) ?_
    refine lv_bipush (v := 20) hx hb dX8_plan_10 (by decide) ?_
    obtain ⟨u56, q57, hf⟩ := ob hf
    refine cSi (As := [.int x2, .int 1, .int 20]) X hw (ctX8_in l E b  q57) ⟨mw_819, mw_820, mw_61, mw_821⟩ hd_X8_in ⟨Nat.le_of_ble_eq_true rfl, Nat.le_of_ble_eq_true rfl, rfl, rfl⟩ rfl hl.1 rfl (Nat.le_of_ble_eq_true rfl) dX8_plan_12 (fun H locs hw => ?_)
    refine lv_if_eq (tgt := 38) hx hb dX8_plan_15 (by decide) (fun c58 => ?_) (fun c58 => ?_)
    · replace hf := (if_pos c58).symm.trans hf
      refine lv_iconst (v := (-1)) hx hb dX8_plan_38 (by decide) ?_
      replace hf := Option.some.inj hf
      subst hf
      exact eI X hw hr hlk dX8_plan_39
    · replace hf := (if_neg c58).symm.trans hf
      refine lv_iload_n hx hb dX8_plan_18 rfl (lv_at hl 3 rfl) ?_
      refine lv_iconst (v := 1) hx hb dX8_plan_19 (by decide) ?_
      refine lv_bipush (v := 12) hx hb dX8_plan_20 (by decide) ?_
      obtain ⟨u59, q60, hf⟩ := ob hf
      refine cSi (As := [.int x3, .int 1, .int 12]) X hw (ctX8_in l E b  q60) ⟨mw_819, mw_820, mw_61, mw_821⟩ hd_X8_in ⟨Nat.le_of_ble_eq_true rfl, Nat.le_of_ble_eq_true rfl, rfl, rfl⟩ rfl hl.1 rfl (Nat.le_of_ble_eq_true rfl) dX8_plan_22 (fun H locs hw => ?_)
      refine lv_if_eq (tgt := 38) hx hb dX8_plan_25 (by decide) (fun c61 => ?_) (fun c61 => ?_)
      · replace hf := (if_pos c61).symm.trans hf
        refine lv_iconst (v := (-1)) hx hb dX8_plan_38 (by decide) ?_
        replace hf := Option.some.inj hf
        subst hf
        exact eI X hw hr hlk dX8_plan_39
      · replace hf := (if_neg c61).symm.trans hf
        refine lv_iload hx hb dX8_plan_28 (lv_at hl 4 rfl) ?_
        refine lv_iconst (v := 0) hx hb dX8_plan_30 (by decide) ?_
        refine lv_iconst (v := 1) hx hb dX8_plan_31 (by decide) ?_
        obtain ⟨u62, q63, hf⟩ := ob hf
        refine cSi (As := [.int x4, .int 0, .int 1]) X hw (ctX8_in l E b  q63) ⟨mw_819, mw_820, mw_61, mw_821⟩ hd_X8_in ⟨Nat.le_of_ble_eq_true rfl, Nat.le_of_ble_eq_true rfl, rfl, rfl⟩ rfl hl.1 rfl (Nat.le_of_ble_eq_true rfl) dX8_plan_32 (fun H locs hw => ?_)
        refine lv_if_ne (tgt := 40) hx hb dX8_plan_35 (by decide) (fun c64 => ?_) (fun c64 => ?_)
        · replace hf := (if_neg c64).symm.trans hf
          refine lv_aload_n hx hb dX8_plan_40 rfl (lv_at hl 0 rfl) ?_
          refine lv_iload_n hx hb dX8_plan_41 rfl (lv_at hl 1 rfl) ?_
          obtain ⟨u65, q66, hf⟩ := ob hf
          refine cVv (As := [.int x1]) X hw (ctX8_asItIs l E b  q66) ⟨mw_954, mw_956, mw_45, mw_61, mw_957⟩ hd_X8_asItIs ⟨Nat.le_of_ble_eq_true rfl, Nat.le_of_ble_eq_true rfl, rfl, rfl⟩ (kdk kk_197 (by decide)) (ce_X8 E _ _ _ _ kk_197) (show vwCl[8]? = some (RX8, TX8, 31) from rfl) rfl hl.1 rfl (Nat.le_of_ble_eq_true rfl) dX8_plan_42 (fun H locs hw => ?_)
          refine lv_iconst (v := 0) hx hb dX8_plan_45 (by decide) ?_
          refine lv_istore (lv' := [(5, .int 0), (0, .ref (b + 197)), (1, .int x1), (2, .int x2), (3, .int x3), (4, .int x4)]) hx hb dX8_plan_46 hl (by decide) rfl (fun ls hl => ?_)
          refine lv_iconst (v := 0) hx hb dX8_plan_48 (by decide) ?_
          refine lv_istore (lv' := [(6, .int 0), (5, .int 0), (0, .ref (b + 197)), (1, .int x1), (2, .int x2), (3, .int x3), (4, .int x4)]) hx hb dX8_plan_49 hl (by decide) rfl (fun ls hl => ?_)
          exact tX8_plan_51 X hr hlk FU x1 x2 x3 x4 0 0 u65 hf H locs ls hw (lv_sub hl [2, 3, 4, 5, 6, 1, 0] rfl)
        · replace hf := (if_pos c64).symm.trans hf
          refine lv_iconst (v := (-1)) hx hb dX8_plan_38 (by decide) ?_
          replace hf := Option.some.inj hf
          subst hf
          exact eI X hw hr hlk dX8_plan_39

abbrev rmX8_isMost : Room := { frames := 0, cells := 0, slots := 0, locals := 0 }
theorem hd_X8_isMost : Hd yX8_isMost RX8 1 := by decide +kernel
def gX8_isMost_126  (k52 : Int32 → Int32 → Int32 → Int32 → Mem → Option (Int32)) (x1 : Int32) (x2 : Int32) (x4 : Int32) (y0 : Int32) (M : Mem) : Option (Int32) := (some (x4 + 1)).bind fun z94 => k52 x1 x2 y0 z94 M
def gX8_isMost_125  (k52 : Int32 → Int32 → Int32 → Int32 → Mem → Option (Int32)) (x1 : Int32) (x2 : Int32) (x4 : Int32) (M : Mem) : Option (Int32) := gX8_isMost_126 k52 x1 x2 x4 0 M
def gX8_isMost_121  (k52 : Int32 → Int32 → Int32 → Int32 → Mem → Option (Int32)) (x1 : Int32) (x2 : Int32) (x4 : Int32) (M : Mem) : Option (Int32) := gX8_isMost_126 k52 x1 x2 x4 1 M
def gX8_isMost_96  (k52 : Int32 → Int32 → Int32 → Int32 → Mem → Option (Int32)) (k68 : Int32 → Int32 → Int32 → Int32 → Int32 → Int32 → Mem → Option (Int32)) (x1 : Int32) (x2 : Int32) (x3 : Int32) (x4 : Int32) (x6 : Int32) (y0 : Int32) (y1 : Int32) (M : Mem) : Option (Int32) := (some (y1 + y0)).bind fun z100 => (some (x6 + 1)).bind fun z101 => k68 x1 x2 x3 x4 z100 z101 M
def gX8_isMost_68  (k52 : Int32 → Int32 → Int32 → Int32 → Mem → Option (Int32)) : Nat → Int32 → Int32 → Int32 → Int32 → Int32 → Int32 → Mem → Option (Int32)
  | 0, _, _, _, _, _, _, _ => none
  | n + 1, x1, x2, x3, x4, x5, x6, M => if (M 197 29) ≤ x6 then (if x3 = 0 then (gX8_isMost_125 k52 x1 x2 x4 M) else (if x4 = x1 then (gX8_isMost_121 k52 x1 x2 x4 M) else (if x2 ≤ x5 then (gX8_isMost_125 k52 x1 x2 x4 M) else (gX8_isMost_121 k52 x1 x2 x4 M)))) else ((ldA 40 (M 210) x6).bind fun v97 => if v97 = x4 then (gX8_isMost_96 k52 (gX8_isMost_68 k52 n) x1 x2 x3 x4 x6 1 x5 M) else (gX8_isMost_96 k52 (gX8_isMost_68 k52 n) x1 x2 x3 x4 x6 0 x5 M))
def gX8_isMost_52   : Nat → Int32 → Int32 → Int32 → Int32 → Mem → Option (Int32)
  | 0, _, _, _, _, _ => none
  | n + 1, x1, x2, x3, x4, M => if 10 ≤ x4 then ((zr x3).bind fun v89 => some (v89)) else ((some (M 197 28)).bind fun z91 => gX8_isMost_68 (gX8_isMost_52 n) FU x1 x2 x3 x4 0 z91 M)
def gX8_isMost_48   (x1 : Int32) (x2 : Int32) (y0 : Int32) (M : Mem) : Option (Int32) := gX8_isMost_52 FU x1 x2 y0 0 M
def gX8_isMost_31  (k7 : Int32 → Int32 → Int32 → Mem → Option (Int32)) (x1 : Int32) (x3 : Int32) (y0 : Int32) (y1 : Int32) (M : Mem) : Option (Int32) := (some (y1 + y0)).bind fun z105 => (some (x3 + 1)).bind fun z106 => k7 x1 z105 z106 M
def gX8_isMost_7   : Nat → Int32 → Int32 → Int32 → Mem → Option (Int32)
  | 0, _, _, _, _ => none
  | n + 1, x1, x2, x3, M => if (M 197 29) ≤ x3 then (if x2 ≤ 0 then (gX8_isMost_48 x1 x2 0 M) else (gX8_isMost_48 x1 x2 1 M)) else ((ldA 40 (M 210) x3).bind fun v102 => if v102 = x1 then (gX8_isMost_31 (gX8_isMost_7 n) x1 x3 1 x2 M) else (gX8_isMost_31 (gX8_isMost_7 n) x1 x3 0 x2 M))
def gX8_isMost (x1 : Int32) (M : Mem) : Option (Int32) := (some (M 197 28)).bind fun z85 => gX8_isMost_7 FU x1 0 z85 M
set_option maxHeartbeats 4000000 in
set_option maxRecDepth 100000 in
theorem tX8_isMost_126 {p : Program} {l : Launch} {e : Env} {s : State} {m : MethodId} {args : Array Value} {below : List Frame} {meth : Method} {c : Code} {E : EE} {b : Nat} {MC : Mem} {TC : Int64} {TM : Int64} {res : Int32} (X : CX E p s m args c cX8_isMost 7 RX8) (hr : meth.sig.returnType = (some .boolean)) (hlk : meth.locks = false)   {k52 : Int32 → Int32 → Int32 → Int32 → Mem → Option (Int32)} (hk52 : ∀ (x1 : Int32) (x2 : Int32) (x3 : Int32) (x4 : Int32) (M : Mem), k52 x1 x2 x3 x4 M = some res → ∀ (H : Heap) (locs : List Loc) (ls : Array Slot), WW E b MC TC M TM s H locs → lv_has ls 7 [(0, .ref (b + 197)), (1, .int x1), (2, .int x2), (3, .int x3), (4, .int x4)] → W p l e rmX8_isMost s m args below meth c H locs 0 0 (MQ below (va_Qi (fun x (_ : Unit) => x = res) (fun _ t => PW E b MC TC M TM t) (AA b)) args s 0 0 (AA b)) (F0 m 52 ls [])) : ∀ (x1 : Int32) (x2 : Int32) (x4 : Int32) (y0 : Int32) (M : Mem), gX8_isMost_126 k52 x1 x2 x4 y0 M = some res → ∀ (H : Heap) (locs : List Loc) (ls : Array Slot), WW E b MC TC M TM s H locs → lv_has ls 7 [(0, .ref (b + 197)), (1, .int x1), (2, .int x2), (4, .int x4)] → W p l e rmX8_isMost s m args below meth c H locs 0 0 (MQ below (va_Qi (fun x (_ : Unit) => x = res) (fun _ t => PW E b MC TC M TM t) (AA b)) args s 0 0 (AA b)) (F0 m 126 ls [.int y0]) := by
  have hx := X.1
  have hb := X.2.1
  intro x1 x2 x4 y0 M hf H locs ls hw hl
  rw [gX8_isMost_126] at hf
  refine lv_istore_n (lv' := [(3, .int y0), (0, .ref (b + 197)), (1, .int x1), (2, .int x2), (4, .int x4)]) hx hb dX8_isMost_126 rfl hl (by decide) rfl (fun ls hl => ?_)
  obtain ⟨z94, ez94⟩ : ∃ y : Int32, y = x4 + 1 := ⟨_, rfl⟩
  replace hf := nmb hf ez94
  refine lv_iinc (v := z94) (lv' := [(4, .int z94), (3, .int y0), (0, .ref (b + 197)), (1, .int x1), (2, .int x2)]) hx hb dX8_isMost_127 hl (k := 4) rfl (by rw [ez94]; rfl) (by decide) rfl (fun ls hl => ?_)
  refine lv_goto (tgt := 52) hx hb dX8_isMost_130 (by decide) ?_
  exact hk52 x1 x2 y0 z94 M hf H locs ls hw (lv_sub hl [2, 3, 4, 1, 0] rfl)
set_option maxHeartbeats 4000000 in
set_option maxRecDepth 100000 in
theorem tX8_isMost_125 {p : Program} {l : Launch} {e : Env} {s : State} {m : MethodId} {args : Array Value} {below : List Frame} {meth : Method} {c : Code} {E : EE} {b : Nat} {MC : Mem} {TC : Int64} {TM : Int64} {res : Int32} (X : CX E p s m args c cX8_isMost 7 RX8) (hr : meth.sig.returnType = (some .boolean)) (hlk : meth.locks = false)   {k52 : Int32 → Int32 → Int32 → Int32 → Mem → Option (Int32)} (hk52 : ∀ (x1 : Int32) (x2 : Int32) (x3 : Int32) (x4 : Int32) (M : Mem), k52 x1 x2 x3 x4 M = some res → ∀ (H : Heap) (locs : List Loc) (ls : Array Slot), WW E b MC TC M TM s H locs → lv_has ls 7 [(0, .ref (b + 197)), (1, .int x1), (2, .int x2), (3, .int x3), (4, .int x4)] → W p l e rmX8_isMost s m args below meth c H locs 0 0 (MQ below (va_Qi (fun x (_ : Unit) => x = res) (fun _ t => PW E b MC TC M TM t) (AA b)) args s 0 0 (AA b)) (F0 m 52 ls [])) : ∀ (x1 : Int32) (x2 : Int32) (x4 : Int32) (M : Mem), gX8_isMost_125 k52 x1 x2 x4 M = some res → ∀ (H : Heap) (locs : List Loc) (ls : Array Slot), WW E b MC TC M TM s H locs → lv_has ls 7 [(0, .ref (b + 197)), (1, .int x1), (2, .int x2), (4, .int x4)] → W p l e rmX8_isMost s m args below meth c H locs 0 0 (MQ below (va_Qi (fun x (_ : Unit) => x = res) (fun _ t => PW E b MC TC M TM t) (AA b)) args s 0 0 (AA b)) (F0 m 125 ls []) := by
  have hx := X.1
  have hb := X.2.1
  intro x1 x2 x4 M hf H locs ls hw hl
  rw [gX8_isMost_125] at hf
  refine lv_iconst (v := 0) hx hb dX8_isMost_125 (by decide) ?_
  exact tX8_isMost_126 X hr hlk hk52 x1 x2 x4 0 M hf H locs ls hw (lv_sub hl [0, 1, 2, 3] rfl)
set_option maxHeartbeats 4000000 in
set_option maxRecDepth 100000 in
theorem tX8_isMost_121 {p : Program} {l : Launch} {e : Env} {s : State} {m : MethodId} {args : Array Value} {below : List Frame} {meth : Method} {c : Code} {E : EE} {b : Nat} {MC : Mem} {TC : Int64} {TM : Int64} {res : Int32} (X : CX E p s m args c cX8_isMost 7 RX8) (hr : meth.sig.returnType = (some .boolean)) (hlk : meth.locks = false)   {k52 : Int32 → Int32 → Int32 → Int32 → Mem → Option (Int32)} (hk52 : ∀ (x1 : Int32) (x2 : Int32) (x3 : Int32) (x4 : Int32) (M : Mem), k52 x1 x2 x3 x4 M = some res → ∀ (H : Heap) (locs : List Loc) (ls : Array Slot), WW E b MC TC M TM s H locs → lv_has ls 7 [(0, .ref (b + 197)), (1, .int x1), (2, .int x2), (3, .int x3), (4, .int x4)] → W p l e rmX8_isMost s m args below meth c H locs 0 0 (MQ below (va_Qi (fun x (_ : Unit) => x = res) (fun _ t => PW E b MC TC M TM t) (AA b)) args s 0 0 (AA b)) (F0 m 52 ls [])) : ∀ (x1 : Int32) (x2 : Int32) (x4 : Int32) (M : Mem), gX8_isMost_121 k52 x1 x2 x4 M = some res → ∀ (H : Heap) (locs : List Loc) (ls : Array Slot), WW E b MC TC M TM s H locs → lv_has ls 7 [(0, .ref (b + 197)), (1, .int x1), (2, .int x2), (4, .int x4)] → W p l e rmX8_isMost s m args below meth c H locs 0 0 (MQ below (va_Qi (fun x (_ : Unit) => x = res) (fun _ t => PW E b MC TC M TM t) (AA b)) args s 0 0 (AA b)) (F0 m 121 ls []) := by
  have hx := X.1
  have hb := X.2.1
  intro x1 x2 x4 M hf H locs ls hw hl
  rw [gX8_isMost_121] at hf
  refine lv_iconst (v := 1) hx hb dX8_isMost_121 (by decide) ?_
  refine lv_goto (tgt := 126) hx hb dX8_isMost_122 (by decide) ?_
  exact tX8_isMost_126 X hr hlk hk52 x1 x2 x4 1 M hf H locs ls hw (lv_sub hl [0, 1, 2, 3] rfl)
set_option maxHeartbeats 4000000 in
set_option maxRecDepth 100000 in
theorem tX8_isMost_96 {p : Program} {l : Launch} {e : Env} {s : State} {m : MethodId} {args : Array Value} {below : List Frame} {meth : Method} {c : Code} {E : EE} {b : Nat} {MC : Mem} {TC : Int64} {TM : Int64} {res : Int32} (X : CX E p s m args c cX8_isMost 7 RX8) (hr : meth.sig.returnType = (some .boolean)) (hlk : meth.locks = false)   {k52 : Int32 → Int32 → Int32 → Int32 → Mem → Option (Int32)} (hk52 : ∀ (x1 : Int32) (x2 : Int32) (x3 : Int32) (x4 : Int32) (M : Mem), k52 x1 x2 x3 x4 M = some res → ∀ (H : Heap) (locs : List Loc) (ls : Array Slot), WW E b MC TC M TM s H locs → lv_has ls 7 [(0, .ref (b + 197)), (1, .int x1), (2, .int x2), (3, .int x3), (4, .int x4)] → W p l e rmX8_isMost s m args below meth c H locs 0 0 (MQ below (va_Qi (fun x (_ : Unit) => x = res) (fun _ t => PW E b MC TC M TM t) (AA b)) args s 0 0 (AA b)) (F0 m 52 ls [])) {k68 : Int32 → Int32 → Int32 → Int32 → Int32 → Int32 → Mem → Option (Int32)} (hk68 : ∀ (x1 : Int32) (x2 : Int32) (x3 : Int32) (x4 : Int32) (x5 : Int32) (x6 : Int32) (M : Mem), k68 x1 x2 x3 x4 x5 x6 M = some res → ∀ (H : Heap) (locs : List Loc) (ls : Array Slot), WW E b MC TC M TM s H locs → lv_has ls 7 [(0, .ref (b + 197)), (1, .int x1), (2, .int x2), (3, .int x3), (4, .int x4), (5, .int x5), (6, .int x6)] → W p l e rmX8_isMost s m args below meth c H locs 0 0 (MQ below (va_Qi (fun x (_ : Unit) => x = res) (fun _ t => PW E b MC TC M TM t) (AA b)) args s 0 0 (AA b)) (F0 m 68 ls [])) : ∀ (x1 : Int32) (x2 : Int32) (x3 : Int32) (x4 : Int32) (x6 : Int32) (y0 : Int32) (y1 : Int32) (M : Mem), gX8_isMost_96 k52 k68 x1 x2 x3 x4 x6 y0 y1 M = some res → ∀ (H : Heap) (locs : List Loc) (ls : Array Slot), WW E b MC TC M TM s H locs → lv_has ls 7 [(0, .ref (b + 197)), (1, .int x1), (2, .int x2), (3, .int x3), (4, .int x4), (6, .int x6)] → W p l e rmX8_isMost s m args below meth c H locs 0 0 (MQ below (va_Qi (fun x (_ : Unit) => x = res) (fun _ t => PW E b MC TC M TM t) (AA b)) args s 0 0 (AA b)) (F0 m 96 ls [.int y0, .int y1]) := by
  have hx := X.1
  have hb := X.2.1
  intro x1 x2 x3 x4 x6 y0 y1 M hf H locs ls hw hl
  rw [gX8_isMost_96] at hf
  refine lv_iadd hx hb dX8_isMost_96 ?_
  refine lv_topi (fun z100 ez100 => ?_)
  replace hf := nmb hf ez100
  refine lv_istore (lv' := [(5, .int z100), (0, .ref (b + 197)), (1, .int x1), (2, .int x2), (3, .int x3), (4, .int x4), (6, .int x6)]) hx hb dX8_isMost_97 hl (by decide) rfl (fun ls hl => ?_)
  obtain ⟨z101, ez101⟩ : ∃ y : Int32, y = x6 + 1 := ⟨_, rfl⟩
  replace hf := nmb hf ez101
  refine lv_iinc (v := z101) (lv' := [(6, .int z101), (5, .int z100), (0, .ref (b + 197)), (1, .int x1), (2, .int x2), (3, .int x3), (4, .int x4)]) hx hb dX8_isMost_99 hl (k := 6) rfl (by rw [ez101]; rfl) (by decide) rfl (fun ls hl => ?_)
  refine lv_goto (tgt := 68) hx hb dX8_isMost_102 (by decide) ?_
  exact hk68 x1 x2 x3 x4 z100 z101 M hf H locs ls hw (lv_sub hl [2, 3, 4, 5, 6, 1, 0] rfl)
set_option maxHeartbeats 4000000 in
set_option maxRecDepth 100000 in
theorem tX8_isMost_68 {p : Program} {l : Launch} {e : Env} {s : State} {m : MethodId} {args : Array Value} {below : List Frame} {meth : Method} {c : Code} {E : EE} {b : Nat} {MC : Mem} {TC : Int64} {TM : Int64} {res : Int32} (X : CX E p s m args c cX8_isMost 7 RX8) (hr : meth.sig.returnType = (some .boolean)) (hlk : meth.locks = false)   {k52 : Int32 → Int32 → Int32 → Int32 → Mem → Option (Int32)} (hk52 : ∀ (x1 : Int32) (x2 : Int32) (x3 : Int32) (x4 : Int32) (M : Mem), k52 x1 x2 x3 x4 M = some res → ∀ (H : Heap) (locs : List Loc) (ls : Array Slot), WW E b MC TC M TM s H locs → lv_has ls 7 [(0, .ref (b + 197)), (1, .int x1), (2, .int x2), (3, .int x3), (4, .int x4)] → W p l e rmX8_isMost s m args below meth c H locs 0 0 (MQ below (va_Qi (fun x (_ : Unit) => x = res) (fun _ t => PW E b MC TC M TM t) (AA b)) args s 0 0 (AA b)) (F0 m 52 ls [])) : ∀ (n : Nat) (x1 : Int32) (x2 : Int32) (x3 : Int32) (x4 : Int32) (x5 : Int32) (x6 : Int32) (M : Mem), gX8_isMost_68 k52 n x1 x2 x3 x4 x5 x6 M = some res → ∀ (H : Heap) (locs : List Loc) (ls : Array Slot), WW E b MC TC M TM s H locs → lv_has ls 7 [(0, .ref (b + 197)), (1, .int x1), (2, .int x2), (3, .int x3), (4, .int x4), (5, .int x5), (6, .int x6)] → W p l e rmX8_isMost s m args below meth c H locs 0 0 (MQ below (va_Qi (fun x (_ : Unit) => x = res) (fun _ t => PW E b MC TC M TM t) (AA b)) args s 0 0 (AA b)) (F0 m 68 ls []) := by
  have hx := X.1
  have hb := X.2.1
  intro n
  induction n with
  | zero =>
    intro x1 x2 x3 x4 x5 x6 M hf
    cases (show (none : Option (Int32)) = some res from hf)
  | succ n ih =>
    intro x1 x2 x3 x4 x5 x6 M hf H locs ls hw hl
    rw [gX8_isMost_68] at hf
    refine lv_iload hx hb dX8_isMost_68 (lv_at hl 6 rfl) ?_
    refine lv_aload_n hx hb dX8_isMost_70 rfl (lv_at hl 0 rfl) ?_
    refine gt_X8 X hw 29 kk_197 rfl (by decide) mw_750 rfl dX8_isMost_71 ?_
    refine lv_icmp_ge (tgt := 105) hx hb dX8_isMost_74 (by decide) (fun c92 => ?_) (fun c92 => ?_)
    · replace hf := (if_pos c92).symm.trans hf
      refine lv_iload_n hx hb dX8_isMost_105 rfl (lv_at hl 3 rfl) ?_
      refine lv_if_eq (tgt := 125) hx hb dX8_isMost_106 (by decide) (fun c93 => ?_) (fun c93 => ?_)
      · replace hf := (if_pos c93).symm.trans hf
        exact tX8_isMost_125 X hr hlk hk52 x1 x2 x4 M hf H locs ls hw (lv_sub hl [0, 1, 2, 4] rfl)
      · replace hf := (if_neg c93).symm.trans hf
        refine lv_iload hx hb dX8_isMost_109 (lv_at hl 4 rfl) ?_
        refine lv_iload_n hx hb dX8_isMost_111 rfl (lv_at hl 1 rfl) ?_
        refine lv_icmp_eq (tgt := 121) hx hb dX8_isMost_112 (by decide) (fun c95 => ?_) (fun c95 => ?_)
        · replace hf := (if_pos c95).symm.trans hf
          exact tX8_isMost_121 X hr hlk hk52 x1 x2 x4 M hf H locs ls hw (lv_sub hl [0, 1, 2, 4] rfl)
        · replace hf := (if_neg c95).symm.trans hf
          refine lv_iload hx hb dX8_isMost_115 (lv_at hl 5 rfl) ?_
          refine lv_iload_n hx hb dX8_isMost_117 rfl (lv_at hl 2 rfl) ?_
          refine lv_icmp_ge (tgt := 125) hx hb dX8_isMost_118 (by decide) (fun c96 => ?_) (fun c96 => ?_)
          · replace hf := (if_pos c96).symm.trans hf
            exact tX8_isMost_125 X hr hlk hk52 x1 x2 x4 M hf H locs ls hw (lv_sub hl [0, 1, 2, 4] rfl)
          · replace hf := (if_neg c96).symm.trans hf
            exact tX8_isMost_121 X hr hlk hk52 x1 x2 x4 M hf H locs ls hw (lv_sub hl [0, 1, 2, 4] rfl)
    · replace hf := (if_neg c92).symm.trans hf
      refine lv_iload hx hb dX8_isMost_77 (lv_at hl 5 rfl) ?_
      refine lv_aload_n hx hb dX8_isMost_79 rfl (lv_at hl 0 rfl) ?_
      refine gt_X8 X hw 27 kk_197 rfl (by decide) mw_748 rfl dX8_isMost_80 ?_
      refine lv_iload hx hb dX8_isMost_83 (lv_at hl 6 rfl) ?_
      obtain ⟨v97, q98, hf⟩ := ob hf
      refine aldM X hw kdv_210 q98 dX8_isMost_85 ?_
      refine lv_iload hx hb dX8_isMost_86 (lv_at hl 4 rfl) ?_
      refine lv_icmp_ne (tgt := 95) hx hb dX8_isMost_88 (by decide) (fun c99 => ?_) (fun c99 => ?_)
      · replace hf := (if_neg c99).symm.trans hf
        refine lv_iconst (v := 0) hx hb dX8_isMost_95 (by decide) ?_
        exact tX8_isMost_96 X hr hlk hk52 ih x1 x2 x3 x4 x6 0 x5 M hf H locs ls hw (lv_sub hl [0, 1, 2, 3, 4, 6] rfl)
      · replace hf := (if_pos c99).symm.trans hf
        refine lv_iconst (v := 1) hx hb dX8_isMost_91 (by decide) ?_
        refine lv_goto (tgt := 96) hx hb dX8_isMost_92 (by decide) ?_
        exact tX8_isMost_96 X hr hlk hk52 ih x1 x2 x3 x4 x6 1 x5 M hf H locs ls hw (lv_sub hl [0, 1, 2, 3, 4, 6] rfl)
set_option maxHeartbeats 4000000 in
set_option maxRecDepth 100000 in
theorem tX8_isMost_52 {p : Program} {l : Launch} {e : Env} {s : State} {m : MethodId} {args : Array Value} {below : List Frame} {meth : Method} {c : Code} {E : EE} {b : Nat} {MC : Mem} {TC : Int64} {TM : Int64} {res : Int32} (X : CX E p s m args c cX8_isMost 7 RX8) (hr : meth.sig.returnType = (some .boolean)) (hlk : meth.locks = false)    : ∀ (n : Nat) (x1 : Int32) (x2 : Int32) (x3 : Int32) (x4 : Int32) (M : Mem), gX8_isMost_52 n x1 x2 x3 x4 M = some res → ∀ (H : Heap) (locs : List Loc) (ls : Array Slot), WW E b MC TC M TM s H locs → lv_has ls 7 [(0, .ref (b + 197)), (1, .int x1), (2, .int x2), (3, .int x3), (4, .int x4)] → W p l e rmX8_isMost s m args below meth c H locs 0 0 (MQ below (va_Qi (fun x (_ : Unit) => x = res) (fun _ t => PW E b MC TC M TM t) (AA b)) args s 0 0 (AA b)) (F0 m 52 ls []) := by
  have hx := X.1
  have hb := X.2.1
  intro n
  induction n with
  | zero =>
    intro x1 x2 x3 x4 M hf
    cases (show (none : Option (Int32)) = some res from hf)
  | succ n ih =>
    intro x1 x2 x3 x4 M hf H locs ls hw hl
    rw [gX8_isMost_52] at hf
    refine lv_iload hx hb dX8_isMost_52 (lv_at hl 4 rfl) ?_
    refine lv_bipush (v := 10) hx hb dX8_isMost_54 (by decide) ?_
    refine lv_icmp_ge (tgt := 133) hx hb dX8_isMost_56 (by decide) (fun c88 => ?_) (fun c88 => ?_)
    · replace hf := (if_pos c88).symm.trans hf
      refine lv_iload_n hx hb dX8_isMost_133 rfl (lv_at hl 3 rfl) ?_
      obtain ⟨v89, q90, hf⟩ := ob hf
      obtain ⟨eq90, q90⟩ := zr_s q90
      rw [eq90]
      replace hf := Option.some.inj hf
      subst hf
      exact eZ X hw q90 hr hlk dX8_isMost_134
    · replace hf := (if_neg c88).symm.trans hf
      refine lv_iconst (v := 0) hx hb dX8_isMost_59 (by decide) ?_
      refine lv_istore (lv' := [(5, .int 0), (0, .ref (b + 197)), (1, .int x1), (2, .int x2), (3, .int x3), (4, .int x4)]) hx hb dX8_isMost_60 hl (by decide) rfl (fun ls hl => ?_)
      refine lv_aload_n hx hb dX8_isMost_62 rfl (lv_at hl 1 rfl) ?_
      refine gt_X8 X hw 28 kk_197 rfl (by decide) mw_749 rfl dX8_isMost_63 ?_
      refine lv_topi (fun z91 ez91 => ?_)
      replace hf := nmb hf ez91
      refine lv_istore (lv' := [(6, .int z91), (5, .int 0), (0, .ref (b + 197)), (1, .int x1), (2, .int x2), (3, .int x3), (4, .int x4)]) hx hb dX8_isMost_66 hl (by decide) rfl (fun ls hl => ?_)
      exact tX8_isMost_68 X hr hlk ih FU x1 x2 x3 x4 0 z91 M hf H locs ls hw (lv_sub hl [2, 3, 4, 5, 6, 1, 0] rfl)
set_option maxHeartbeats 4000000 in
set_option maxRecDepth 100000 in
theorem tX8_isMost_48 {p : Program} {l : Launch} {e : Env} {s : State} {m : MethodId} {args : Array Value} {below : List Frame} {meth : Method} {c : Code} {E : EE} {b : Nat} {MC : Mem} {TC : Int64} {TM : Int64} {res : Int32} (X : CX E p s m args c cX8_isMost 7 RX8) (hr : meth.sig.returnType = (some .boolean)) (hlk : meth.locks = false)    : ∀ (x1 : Int32) (x2 : Int32) (y0 : Int32) (M : Mem), gX8_isMost_48 x1 x2 y0 M = some res → ∀ (H : Heap) (locs : List Loc) (ls : Array Slot), WW E b MC TC M TM s H locs → lv_has ls 7 [(0, .ref (b + 197)), (1, .int x1), (2, .int x2)] → W p l e rmX8_isMost s m args below meth c H locs 0 0 (MQ below (va_Qi (fun x (_ : Unit) => x = res) (fun _ t => PW E b MC TC M TM t) (AA b)) args s 0 0 (AA b)) (F0 m 48 ls [.int y0]) := by
  have hx := X.1
  have hb := X.2.1
  intro x1 x2 y0 M hf H locs ls hw hl
  rw [gX8_isMost_48] at hf
  refine lv_istore_n (lv' := [(3, .int y0), (0, .ref (b + 197)), (1, .int x1), (2, .int x2)]) hx hb dX8_isMost_48 rfl hl (by decide) rfl (fun ls hl => ?_)
  refine lv_iconst (v := 0) hx hb dX8_isMost_49 (by decide) ?_
  refine lv_istore (lv' := [(4, .int 0), (3, .int y0), (0, .ref (b + 197)), (1, .int x1), (2, .int x2)]) hx hb dX8_isMost_50 hl (by decide) rfl (fun ls hl => ?_)
  exact tX8_isMost_52 X hr hlk FU x1 x2 y0 0 M hf H locs ls hw (lv_sub hl [2, 3, 4, 1, 0] rfl)
set_option maxHeartbeats 4000000 in
set_option maxRecDepth 100000 in
theorem tX8_isMost_31 {p : Program} {l : Launch} {e : Env} {s : State} {m : MethodId} {args : Array Value} {below : List Frame} {meth : Method} {c : Code} {E : EE} {b : Nat} {MC : Mem} {TC : Int64} {TM : Int64} {res : Int32} (X : CX E p s m args c cX8_isMost 7 RX8) (hr : meth.sig.returnType = (some .boolean)) (hlk : meth.locks = false)   {k7 : Int32 → Int32 → Int32 → Mem → Option (Int32)} (hk7 : ∀ (x1 : Int32) (x2 : Int32) (x3 : Int32) (M : Mem), k7 x1 x2 x3 M = some res → ∀ (H : Heap) (locs : List Loc) (ls : Array Slot), WW E b MC TC M TM s H locs → lv_has ls 7 [(0, .ref (b + 197)), (1, .int x1), (2, .int x2), (3, .int x3)] → W p l e rmX8_isMost s m args below meth c H locs 0 0 (MQ below (va_Qi (fun x (_ : Unit) => x = res) (fun _ t => PW E b MC TC M TM t) (AA b)) args s 0 0 (AA b)) (F0 m 7 ls [])) : ∀ (x1 : Int32) (x3 : Int32) (y0 : Int32) (y1 : Int32) (M : Mem), gX8_isMost_31 k7 x1 x3 y0 y1 M = some res → ∀ (H : Heap) (locs : List Loc) (ls : Array Slot), WW E b MC TC M TM s H locs → lv_has ls 7 [(0, .ref (b + 197)), (1, .int x1), (3, .int x3)] → W p l e rmX8_isMost s m args below meth c H locs 0 0 (MQ below (va_Qi (fun x (_ : Unit) => x = res) (fun _ t => PW E b MC TC M TM t) (AA b)) args s 0 0 (AA b)) (F0 m 31 ls [.int y0, .int y1]) := by
  have hx := X.1
  have hb := X.2.1
  intro x1 x3 y0 y1 M hf H locs ls hw hl
  rw [gX8_isMost_31] at hf
  refine lv_iadd hx hb dX8_isMost_31 ?_
  refine lv_topi (fun z105 ez105 => ?_)
  replace hf := nmb hf ez105
  refine lv_istore_n (lv' := [(2, .int z105), (0, .ref (b + 197)), (1, .int x1), (3, .int x3)]) hx hb dX8_isMost_32 rfl hl (by decide) rfl (fun ls hl => ?_)
  obtain ⟨z106, ez106⟩ : ∃ y : Int32, y = x3 + 1 := ⟨_, rfl⟩
  replace hf := nmb hf ez106
  refine lv_iinc (v := z106) (lv' := [(3, .int z106), (2, .int z105), (0, .ref (b + 197)), (1, .int x1)]) hx hb dX8_isMost_33 hl (k := 3) rfl (by rw [ez106]; rfl) (by decide) rfl (fun ls hl => ?_)
  refine lv_goto (tgt := 7) hx hb dX8_isMost_36 (by decide) ?_
  exact hk7 x1 z105 z106 M hf H locs ls hw (lv_sub hl [2, 3, 1, 0] rfl)
set_option maxHeartbeats 4000000 in
set_option maxRecDepth 100000 in
theorem tX8_isMost_7 {p : Program} {l : Launch} {e : Env} {s : State} {m : MethodId} {args : Array Value} {below : List Frame} {meth : Method} {c : Code} {E : EE} {b : Nat} {MC : Mem} {TC : Int64} {TM : Int64} {res : Int32} (X : CX E p s m args c cX8_isMost 7 RX8) (hr : meth.sig.returnType = (some .boolean)) (hlk : meth.locks = false)    : ∀ (n : Nat) (x1 : Int32) (x2 : Int32) (x3 : Int32) (M : Mem), gX8_isMost_7 n x1 x2 x3 M = some res → ∀ (H : Heap) (locs : List Loc) (ls : Array Slot), WW E b MC TC M TM s H locs → lv_has ls 7 [(0, .ref (b + 197)), (1, .int x1), (2, .int x2), (3, .int x3)] → W p l e rmX8_isMost s m args below meth c H locs 0 0 (MQ below (va_Qi (fun x (_ : Unit) => x = res) (fun _ t => PW E b MC TC M TM t) (AA b)) args s 0 0 (AA b)) (F0 m 7 ls []) := by
  have hx := X.1
  have hb := X.2.1
  intro n
  induction n with
  | zero =>
    intro x1 x2 x3 M hf
    cases (show (none : Option (Int32)) = some res from hf)
  | succ n ih =>
    intro x1 x2 x3 M hf H locs ls hw hl
    rw [gX8_isMost_7] at hf
    refine lv_iload_n hx hb dX8_isMost_7 rfl (lv_at hl 3 rfl) ?_
    refine lv_aload_n hx hb dX8_isMost_8 rfl (lv_at hl 0 rfl) ?_
    refine gt_X8 X hw 29 kk_197 rfl (by decide) mw_750 rfl dX8_isMost_9 ?_
    refine lv_icmp_ge (tgt := 39) hx hb dX8_isMost_12 (by decide) (fun c86 => ?_) (fun c86 => ?_)
    · replace hf := (if_pos c86).symm.trans hf
      refine lv_iload_n hx hb dX8_isMost_39 rfl (lv_at hl 2 rfl) ?_
      refine lv_if_le (tgt := 47) hx hb dX8_isMost_40 (by decide) (fun c87 => ?_) (fun c87 => ?_)
      · replace hf := (if_pos c87).symm.trans hf
        refine lv_iconst (v := 0) hx hb dX8_isMost_47 (by decide) ?_
        exact tX8_isMost_48 X hr hlk x1 x2 0 M hf H locs ls hw (lv_sub hl [0, 1, 2] rfl)
      · replace hf := (if_neg c87).symm.trans hf
        refine lv_iconst (v := 1) hx hb dX8_isMost_43 (by decide) ?_
        refine lv_goto (tgt := 48) hx hb dX8_isMost_44 (by decide) ?_
        exact tX8_isMost_48 X hr hlk x1 x2 1 M hf H locs ls hw (lv_sub hl [0, 1, 2] rfl)
    · replace hf := (if_neg c86).symm.trans hf
      refine lv_iload_n hx hb dX8_isMost_15 rfl (lv_at hl 2 rfl) ?_
      refine lv_aload_n hx hb dX8_isMost_16 rfl (lv_at hl 0 rfl) ?_
      refine gt_X8 X hw 27 kk_197 rfl (by decide) mw_748 rfl dX8_isMost_17 ?_
      refine lv_iload_n hx hb dX8_isMost_20 rfl (lv_at hl 3 rfl) ?_
      obtain ⟨v102, q103, hf⟩ := ob hf
      refine aldM X hw kdv_210 q103 dX8_isMost_21 ?_
      refine lv_iload_n hx hb dX8_isMost_22 rfl (lv_at hl 1 rfl) ?_
      refine lv_icmp_ne (tgt := 30) hx hb dX8_isMost_23 (by decide) (fun c104 => ?_) (fun c104 => ?_)
      · replace hf := (if_neg c104).symm.trans hf
        refine lv_iconst (v := 0) hx hb dX8_isMost_30 (by decide) ?_
        exact tX8_isMost_31 X hr hlk ih x1 x3 0 x2 M hf H locs ls hw (lv_sub hl [0, 1, 3] rfl)
      · replace hf := (if_pos c104).symm.trans hf
        refine lv_iconst (v := 1) hx hb dX8_isMost_26 (by decide) ?_
        refine lv_goto (tgt := 31) hx hb dX8_isMost_27 (by decide) ?_
        exact tX8_isMost_31 X hr hlk ih x1 x3 1 x2 M hf H locs ls hw (lv_sub hl [0, 1, 3] rfl)
set_option maxHeartbeats 4000000 in
set_option maxRecDepth 100000 in
theorem ctX8_isMost (l : Launch) (E : EE) (b : Nat) {MC : Mem} {TC : Int64} {TM : Int64} {x1 : Int32} {M : Mem} {res : Int32}  (hf : gX8_isMost x1 M = some res) : MetI l E b yX8_isMost (.code yX8_isMost cX8_isMost 7 (some .boolean)) rmX8_isMost [.ref (b + 197), .int x1] MC TC M TM res MC TC M TM := by
  refine Met.ofW (cc := cX8_isMost) (maxL := 7) (ret := (some .boolean)) (by decide) rfl ?_
  intro p e s m args below meth c s₁ B hml hv
  obtain ⟨rfl, hP, hK⟩ := hv
  have hx := B.exec
  have hb := B.bytes
  have X : CX E p s m _ c cX8_isMost 7 RX8 := ⟨hx, hb, hml, findClass_of_methodNamed B.named, fun w h => atoms_spec (ws := _ :: wt) B.pre w (List.mem_cons_of_mem _ h), hK⟩
  have hr := B.returns
  have hlk := B.notSynchronized
  have hw : WW E b MC TC M TM s s.heap [] := ⟨hP, va_S.rf⟩
  have hl := lv_entry ([.ref (b + 197), .int x1]) (n := 7) (Nat.le_of_ble_eq_true rfl)
  rw [lg_entry_eq]
  generalize (lg_sl ([.ref (b + 197), .int x1]) ++ List.replicate (7 - (lg_sl ([.ref (b + 197), .int x1])).length) Slot.unset).toArray = ls at hl ⊢
  have hl : lv_has ls 7 [(0, .ref (b + 197)), (1, .int x1)] := hl
  obtain ⟨H, hH⟩ : ∃ H, H = s.heap := ⟨_, rfl⟩
  obtain ⟨locs, hL⟩ : ∃ L : List Loc, L = [] := ⟨_, rfl⟩
  rw [← hH, ← hL] at hw
  suffices hg : W p l e rmX8_isMost s m _ below meth c H locs 0 0 (MQ below (va_Qi (fun x (_ : Unit) => x = res) (fun _ t => PW E b MC TC M TM t) (AA b)) _ s 0 0 (AA b)) (F0 m 0 ls []) by rw [hH, hL] at hg; exact hg
  clear hH hL
  rw [gX8_isMost] at hf
  refine lv_iconst (v := 0) hx hb dX8_isMost_0 (by decide) ?_
  refine lv_istore_n (lv' := [(2, .int 0), (0, .ref (b + 197)), (1, .int x1)]) hx hb dX8_isMost_1 rfl hl (by decide) rfl (fun ls hl => ?_)
  refine lv_aload_n hx hb dX8_isMost_2 rfl (lv_at hl 1 rfl) ?_
  refine gt_X8 X hw 28 kk_197 rfl (by decide) mw_749 rfl dX8_isMost_3 ?_
  refine lv_topi (fun z85 ez85 => ?_)
  replace hf := nmb hf ez85
  refine lv_istore_n (lv' := [(3, .int z85), (2, .int 0), (0, .ref (b + 197)), (1, .int x1)]) hx hb dX8_isMost_6 rfl hl (by decide) rfl (fun ls hl => ?_)
  exact tX8_isMost_7 X hr hlk FU x1 0 z85 M hf H locs ls hw (lv_sub hl [2, 3, 1, 0] rfl)
