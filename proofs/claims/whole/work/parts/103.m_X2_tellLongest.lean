abbrev rmX2_tellLongest : Room := { frames := 3, cells := 0, slots := 0, locals := 62 }
theorem hd_X2_tellLongest : Hd yX2_tellLongest RX2 0 := by decide +kernel
def gX2_tellLongest (M : Mem) : Option (Int32 × Mem) := (gX2_isNumber 1 12 M).bind fun u1 => if u1 = 0 then (some (0, M)) else ((some (us M 4 4 (M 1 5))).bind fun M4 => (some (us M4 1 6 1)).bind fun M5 => (gX2_advance M5).bind fun u6 => some (1, u6))
set_option maxHeartbeats 4000000 in
set_option maxRecDepth 100000 in
theorem ctX2_tellLongest (l : Launch) (E : EE) (b : Nat) {TC : Int64} {MM : Mem} {TM : Int64} {M : Mem} {res : Int32 × Mem}  (hf : gX2_tellLongest M = some res) : MetI l E b yX2_tellLongest (.code yX2_tellLongest cX2_tellLongest 1 (some .boolean)) rmX2_tellLongest [.ref (b + 1)] M TC MM TM res.1 res.2 TC MM TM := by
  refine Met.ofW (cc := cX2_tellLongest) (maxL := 1) (ret := (some .boolean)) (by decide) rfl ?_
  intro p e s m args below meth c s₁ B hml hv
  obtain ⟨rfl, hP, hK⟩ := hv
  have hx := B.exec
  have hb := B.bytes
  have X : CX E p s m _ c cX2_tellLongest 1 RX2 := ⟨hx, hb, hml, findClass_of_methodNamed B.named, fun w h => atoms_spec (ws := _ :: wt) B.pre w (List.mem_cons_of_mem _ h), hK⟩
  have hr := B.returns
  have hlk := B.notSynchronized
  have hw : WW E b M TC MM TM s s.heap [] := ⟨hP, va_S.rf⟩
  have hl := lv_entry ([.ref (b + 1)]) (n := 1) (Nat.le_of_ble_eq_true rfl)
  rw [lg_entry_eq]
  generalize (lg_sl ([.ref (b + 1)]) ++ List.replicate (1 - (lg_sl ([.ref (b + 1)])).length) Slot.unset).toArray = ls at hl ⊢
  have hl : lv_has ls 1 [(0, .ref (b + 1))] := hl
  obtain ⟨H, hH⟩ : ∃ H, H = s.heap := ⟨_, rfl⟩
  obtain ⟨locs, hL⟩ : ∃ L : List Loc, L = [] := ⟨_, rfl⟩
  rw [← hH, ← hL] at hw
  suffices hg : W p l e rmX2_tellLongest s m _ below meth c H locs 0 0 (MQ below (va_Qi (fun x (_ : Unit) => x = res.1) (fun _ t => PW E b res.2 TC MM TM t) (AA b)) _ s 0 0 (AA b)) (F0 m 0 ls []) by rw [hH, hL] at hg; exact hg
  clear hH hL
  rw [gX2_tellLongest] at hf
  refine lv_aload_n hx hb dX2_tellLongest_0 rfl (lv_at hl 0 rfl) ?_
  refine lv_iconst (v := 1) hx hb dX2_tellLongest_1 (by decide) ?_
  refine lv_bipush (v := 12) hx hb dX2_tellLongest_2 (by decide) ?_
  obtain ⟨u1, q2, hf⟩ := ob hf
  refine cVi (As := [.int 1, .int 12]) X hw (ctX2_isNumber l E b  q2) ⟨mw_368, mw_370, mw_6, mw_53, mw_371⟩ hd_X2_isNumber ⟨Nat.le_of_ble_eq_true rfl, Nat.le_of_ble_eq_true rfl, rfl, rfl⟩ (kdk kk_1 (by decide)) (ce_X2 E _ _ _ _ kk_1) (show vwCl[2]? = some (RX2, TX2, 8) from rfl) rfl hl.1 rfl (Nat.le_of_ble_eq_true rfl) dX2_tellLongest_4 (fun H locs hw => ?_)
  refine lv_if_ne (tgt := 12) hx hb dX2_tellLongest_7 (by decide) (fun c3 => ?_) (fun c3 => ?_)
  · replace hf := (if_neg c3).symm.trans hf
    refine lv_aload_n hx hb dX2_tellLongest_12 rfl (lv_at hl 0 rfl) ?_
    refine gt_X2 X hw 1 kk_1 rfl (by decide) mw_138 rfl dX2_tellLongest_13 ?_
    refine lv_aload_n hx hb dX2_tellLongest_16 rfl (lv_at hl 0 rfl) ?_
    refine gt_X2 X hw 5 kk_1 rfl (by decide) mw_143 rfl dX2_tellLongest_17 ?_
    obtain ⟨M4, eM4, hf⟩ := ob hf
    refine pt_X6_4 X hw kk_4 mw_117 dX2_tellLongest_20 (fun H locs hw => ?_)
    rw [Option.some.inj eM4] at hw
    refine lv_aload_n hx hb dX2_tellLongest_23 rfl (lv_at hl 0 rfl) ?_
    refine lv_iconst (v := 1) hx hb dX2_tellLongest_24 (by decide) ?_
    obtain ⟨M5, eM5, hf⟩ := ob hf
    refine pt_X2_6 X hw kk_1 (by decide) mw_144 dX2_tellLongest_25 (fun H locs hw => ?_)
    rw [Option.some.inj eM5] at hw
    refine lv_aload_n hx hb dX2_tellLongest_28 rfl (lv_at hl 0 rfl) ?_
    obtain ⟨u6, q7, hf⟩ := ob hf
    refine cVv (As := []) X hw (ctX2_advance l E b  q7) ⟨mw_335, mw_337, mw_0, mw_53, mw_338⟩ hd_X2_advance ⟨Nat.le_of_ble_eq_true rfl, Nat.le_of_ble_eq_true rfl, rfl, rfl⟩ (kdk kk_1 (by decide)) (ce_X2 E _ _ _ _ kk_1) (show vwCl[2]? = some (RX2, TX2, 8) from rfl) rfl hl.1 rfl (Nat.le_of_ble_eq_true rfl) dX2_tellLongest_29 (fun H locs hw => ?_)
    refine lv_iconst (v := 1) hx hb dX2_tellLongest_32 (by decide) ?_
    replace hf := Option.some.inj hf
    subst hf
    exact eZ X hw (show (1 : Int32) = 0 ∨ (1 : Int32) = 1 by decide) hr hlk dX2_tellLongest_33
  · replace hf := (if_pos c3).symm.trans hf
    refine lv_iconst (v := 0) hx hb dX2_tellLongest_10 (by decide) ?_
    replace hf := Option.some.inj hf
    subst hf
    exact eZ X hw (show (0 : Int32) = 0 ∨ (0 : Int32) = 1 by decide) hr hlk dX2_tellLongest_11

abbrev rmX2_tellOne : Room := { frames := 3, cells := 0, slots := 0, locals := 62 }
theorem hd_X2_tellOne : Hd yX2_tellOne RX2 1 := by decide +kernel
def gX2_tellOne_107   (y0 : Int32) (M : Mem) : Option (Int32 × Mem) := (zr y0).bind fun v20 => some (v20, M)
def gX2_tellOne_75   (x1 : Int32) (x2 : Int32) (M : Mem) : Option (Int32 × Mem) := (stA 5 M 6 x1 x2).bind fun M16 => (some (us M16 4 3 ((M16 4 3) + 1))).bind fun M18 => if x2 ≤ 0 then (gX2_tellOne_107 0 M18) else (gX2_tellOne_107 1 M18)
def gX2_tellOne_31   : Nat → Int32 → Int32 → Mem → Option (Int32 × Mem)
  | 0, _, _, _ => none
  | n + 1, x1, x2, M => if 7 ≤ x2 then (gX2_tellOne_75 x1 x2 M) else ((gX2_isNumber 0 9 M).bind fun u22 => if u22 = 0 then (gX2_tellOne_75 x1 x2 M) else ((stA 35 M 7 ((x1 * 7) + x2) (M 1 5)).bind fun M25 => (some (x2 + 1)).bind fun z27 => (gX2_advance M25).bind fun u28 => (gX2_tellOne_31 n) x1 z27 u28))
def gX2_tellOne (x1 : Int32) (M : Mem) : Option (Int32 × Mem) := (gX2_isNumber 0 9 M).bind fun u8 => if u8 = 0 then (some (0, M)) else ((stA 5 M 5 x1 (M 1 5)).bind fun M11 => (gX2_advance M11).bind fun u13 => gX2_tellOne_31 FU x1 0 u13)
set_option maxHeartbeats 4000000 in
set_option maxRecDepth 100000 in
theorem tX2_tellOne_107 {p : Program} {l : Launch} {e : Env} {s : State} {m : MethodId} {args : Array Value} {below : List Frame} {meth : Method} {c : Code} {E : EE} {b : Nat} {TC : Int64} {MM : Mem} {TM : Int64} {res : Int32 × Mem} (X : CX E p s m args c cX2_tellOne 3 RX2) (hr : meth.sig.returnType = (some .boolean)) (hlk : meth.locks = false)    : ∀ (y0 : Int32) (M : Mem), gX2_tellOne_107 y0 M = some res → ∀ (H : Heap) (locs : List Loc) (ls : Array Slot), WW E b M TC MM TM s H locs → lv_has ls 3 [] → W p l e rmX2_tellOne s m args below meth c H locs 0 0 (MQ below (va_Qi (fun x (_ : Unit) => x = res.1) (fun _ t => PW E b res.2 TC MM TM t) (AA b)) args s 0 0 (AA b)) (F0 m 107 ls [.int y0]) := by
  have hx := X.1
  have hb := X.2.1
  intro y0 M hf H locs ls hw hl
  rw [gX2_tellOne_107] at hf
  obtain ⟨v20, q21, hf⟩ := ob hf
  obtain ⟨eq21, q21⟩ := zr_s q21
  rw [eq21]
  replace hf := Option.some.inj hf
  subst hf
  exact eZ X hw q21 hr hlk dX2_tellOne_107
set_option maxHeartbeats 4000000 in
set_option maxRecDepth 100000 in
theorem tX2_tellOne_75 {p : Program} {l : Launch} {e : Env} {s : State} {m : MethodId} {args : Array Value} {below : List Frame} {meth : Method} {c : Code} {E : EE} {b : Nat} {TC : Int64} {MM : Mem} {TM : Int64} {res : Int32 × Mem} (X : CX E p s m args c cX2_tellOne 3 RX2) (hr : meth.sig.returnType = (some .boolean)) (hlk : meth.locks = false)    : ∀ (x1 : Int32) (x2 : Int32) (M : Mem), gX2_tellOne_75 x1 x2 M = some res → ∀ (H : Heap) (locs : List Loc) (ls : Array Slot), WW E b M TC MM TM s H locs → lv_has ls 3 [(0, .ref (b + 1)), (1, .int x1), (2, .int x2)] → W p l e rmX2_tellOne s m args below meth c H locs 0 0 (MQ below (va_Qi (fun x (_ : Unit) => x = res.1) (fun _ t => PW E b res.2 TC MM TM t) (AA b)) args s 0 0 (AA b)) (F0 m 75 ls []) := by
  have hx := X.1
  have hb := X.2.1
  intro x1 x2 M hf H locs ls hw hl
  rw [gX2_tellOne_75] at hf
  refine lv_aload_n hx hb dX2_tellOne_75 rfl (lv_at hl 0 rfl) ?_
  refine gt_X2 X hw 1 kk_1 rfl (by decide) mw_138 rfl dX2_tellOne_76 ?_
  refine gt_X6 X hw 1 kk_4 rfl (by decide) mw_107 rfl dX2_tellOne_79 ?_
  refine lv_iload_n hx hb dX2_tellOne_82 rfl (lv_at hl 1 rfl) ?_
  refine lv_iload_n hx hb dX2_tellOne_83 rfl (lv_at hl 2 rfl) ?_
  obtain ⟨M16, q17, hf⟩ := ob hf
  refine astC X hw kdv_6 q17 dX2_tellOne_84 (fun H locs hw => ?_)
  refine lv_aload_n hx hb dX2_tellOne_85 rfl (lv_at hl 0 rfl) ?_
  refine gt_X2 X hw 1 kk_1 rfl (by decide) mw_138 rfl dX2_tellOne_86 ?_
  refine lv_dup hx hb dX2_tellOne_89 rfl ?_
  refine gt_X6 X hw 3 kk_4 rfl (by decide) mw_112 rfl dX2_tellOne_90 ?_
  refine lv_iconst (v := 1) hx hb dX2_tellOne_93 (by decide) ?_
  refine lv_iadd hx hb dX2_tellOne_94 ?_
  obtain ⟨M18, eM18, hf⟩ := ob hf
  refine pt_X6_3 X hw kk_4 mw_112 dX2_tellOne_95 (fun H locs hw => ?_)
  rw [Option.some.inj eM18] at hw
  refine lv_iload_n hx hb dX2_tellOne_98 rfl (lv_at hl 2 rfl) ?_
  refine lv_if_le (tgt := 106) hx hb dX2_tellOne_99 (by decide) (fun c19 => ?_) (fun c19 => ?_)
  · replace hf := (if_pos c19).symm.trans hf
    refine lv_iconst (v := 0) hx hb dX2_tellOne_106 (by decide) ?_
    exact tX2_tellOne_107 X hr hlk 0 M18 hf H locs ls hw (lv_sub hl [] rfl)
  · replace hf := (if_neg c19).symm.trans hf
    refine lv_iconst (v := 1) hx hb dX2_tellOne_102 (by decide) ?_
    refine lv_goto (tgt := 107) hx hb dX2_tellOne_103 (by decide) ?_
    exact tX2_tellOne_107 X hr hlk 1 M18 hf H locs ls hw (lv_sub hl [] rfl)
set_option maxHeartbeats 4000000 in
set_option maxRecDepth 100000 in
theorem tX2_tellOne_31 {p : Program} {l : Launch} {e : Env} {s : State} {m : MethodId} {args : Array Value} {below : List Frame} {meth : Method} {c : Code} {E : EE} {b : Nat} {TC : Int64} {MM : Mem} {TM : Int64} {res : Int32 × Mem} (X : CX E p s m args c cX2_tellOne 3 RX2) (hr : meth.sig.returnType = (some .boolean)) (hlk : meth.locks = false)    : ∀ (n : Nat) (x1 : Int32) (x2 : Int32) (M : Mem), gX2_tellOne_31 n x1 x2 M = some res → ∀ (H : Heap) (locs : List Loc) (ls : Array Slot), WW E b M TC MM TM s H locs → lv_has ls 3 [(0, .ref (b + 1)), (1, .int x1), (2, .int x2)] → W p l e rmX2_tellOne s m args below meth c H locs 0 0 (MQ below (va_Qi (fun x (_ : Unit) => x = res.1) (fun _ t => PW E b res.2 TC MM TM t) (AA b)) args s 0 0 (AA b)) (F0 m 31 ls []) := by
  have hx := X.1
  have hb := X.2.1
  intro n
  induction n with
  | zero =>
    intro x1 x2 M hf
    cases (show (none : Option (Int32 × Mem)) = some res from hf)
  | succ n ih =>
    intro x1 x2 M hf H locs ls hw hl
    rw [gX2_tellOne_31] at hf
    refine lv_iload_n hx hb dX2_tellOne_31 rfl (lv_at hl 2 rfl) ?_
    refine lv_bipush (v := 7) hx hb dX2_tellOne_32 (by decide) ?_
    refine lv_icmp_ge (tgt := 75) hx hb dX2_tellOne_34 (by decide) (fun c15 => ?_) (fun c15 => ?_)
    · replace hf := (if_pos c15).symm.trans hf
      exact tX2_tellOne_75 X hr hlk x1 x2 M hf H locs ls hw (lv_sub hl [0, 1, 2] rfl)
    · replace hf := (if_neg c15).symm.trans hf
      refine lv_aload_n hx hb dX2_tellOne_37 rfl (lv_at hl 0 rfl) ?_
      refine lv_iconst (v := 0) hx hb dX2_tellOne_38 (by decide) ?_
      refine lv_bipush (v := 9) hx hb dX2_tellOne_39 (by decide) ?_
      obtain ⟨u22, q23, hf⟩ := ob hf
      refine cVi (As := [.int 0, .int 9]) X hw (ctX2_isNumber l E b  q23) ⟨mw_368, mw_370, mw_6, mw_53, mw_371⟩ hd_X2_isNumber ⟨Nat.le_of_ble_eq_true rfl, Nat.le_of_ble_eq_true rfl, rfl, rfl⟩ (kdk kk_1 (by decide)) (ce_X2 E _ _ _ _ kk_1) (show vwCl[2]? = some (RX2, TX2, 8) from rfl) rfl hl.1 rfl (Nat.le_of_ble_eq_true rfl) dX2_tellOne_41 (fun H locs hw => ?_)
      refine lv_if_eq (tgt := 75) hx hb dX2_tellOne_44 (by decide) (fun c24 => ?_) (fun c24 => ?_)
      · replace hf := (if_pos c24).symm.trans hf
        exact tX2_tellOne_75 X hr hlk x1 x2 M hf H locs ls hw (lv_sub hl [0, 1, 2] rfl)
      · replace hf := (if_neg c24).symm.trans hf
        refine lv_aload_n hx hb dX2_tellOne_47 rfl (lv_at hl 0 rfl) ?_
        refine gt_X2 X hw 1 kk_1 rfl (by decide) mw_138 rfl dX2_tellOne_48 ?_
        refine gt_X6 X hw 2 kk_4 rfl (by decide) mw_109 rfl dX2_tellOne_51 ?_
        refine lv_iload_n hx hb dX2_tellOne_54 rfl (lv_at hl 1 rfl) ?_
        refine lv_bipush (v := 7) hx hb dX2_tellOne_55 (by decide) ?_
        refine lv_imul hx hb dX2_tellOne_57 ?_
        refine lv_iload_n hx hb dX2_tellOne_58 rfl (lv_at hl 2 rfl) ?_
        refine lv_iadd hx hb dX2_tellOne_59 ?_
        refine lv_aload_n hx hb dX2_tellOne_60 rfl (lv_at hl 0 rfl) ?_
        refine gt_X2 X hw 5 kk_1 rfl (by decide) mw_143 rfl dX2_tellOne_61 ?_
        obtain ⟨M25, q26, hf⟩ := ob hf
        refine astC X hw kdv_7 q26 dX2_tellOne_64 (fun H locs hw => ?_)
        obtain ⟨z27, ez27⟩ : ∃ y : Int32, y = x2 + 1 := ⟨_, rfl⟩
        replace hf := nmb hf ez27
        refine lv_iinc (v := z27) (lv' := [(2, .int z27), (0, .ref (b + 1)), (1, .int x1)]) hx hb dX2_tellOne_65 hl (k := 2) rfl (by rw [ez27]; rfl) (by decide) rfl (fun ls hl => ?_)
        refine lv_aload_n hx hb dX2_tellOne_68 rfl (lv_at hl 1 rfl) ?_
        obtain ⟨u28, q29, hf⟩ := ob hf
        refine cVv (As := []) X hw (ctX2_advance l E b  q29) ⟨mw_335, mw_337, mw_0, mw_53, mw_338⟩ hd_X2_advance ⟨Nat.le_of_ble_eq_true rfl, Nat.le_of_ble_eq_true rfl, rfl, rfl⟩ (kdk kk_1 (by decide)) (ce_X2 E _ _ _ _ kk_1) (show vwCl[2]? = some (RX2, TX2, 8) from rfl) rfl hl.1 rfl (Nat.le_of_ble_eq_true rfl) dX2_tellOne_69 (fun H locs hw => ?_)
        refine lv_goto (tgt := 31) hx hb dX2_tellOne_72 (by decide) ?_
        exact ih x1 z27 u28 hf H locs ls hw (lv_sub hl [1, 2, 0] rfl)
set_option maxHeartbeats 4000000 in
set_option maxRecDepth 100000 in
theorem ctX2_tellOne (l : Launch) (E : EE) (b : Nat) {TC : Int64} {MM : Mem} {TM : Int64} {x1 : Int32} {M : Mem} {res : Int32 × Mem}  (hf : gX2_tellOne x1 M = some res) : MetI l E b yX2_tellOne (.code yX2_tellOne cX2_tellOne 3 (some .boolean)) rmX2_tellOne [.ref (b + 1), .int x1] M TC MM TM res.1 res.2 TC MM TM := by
  refine Met.ofW (cc := cX2_tellOne) (maxL := 3) (ret := (some .boolean)) (by decide) rfl ?_
  intro p e s m args below meth c s₁ B hml hv
  obtain ⟨rfl, hP, hK⟩ := hv
  have hx := B.exec
  have hb := B.bytes
  have X : CX E p s m _ c cX2_tellOne 3 RX2 := ⟨hx, hb, hml, findClass_of_methodNamed B.named, fun w h => atoms_spec (ws := _ :: wt) B.pre w (List.mem_cons_of_mem _ h), hK⟩
  have hr := B.returns
  have hlk := B.notSynchronized
  have hw : WW E b M TC MM TM s s.heap [] := ⟨hP, va_S.rf⟩
  have hl := lv_entry ([.ref (b + 1), .int x1]) (n := 3) (Nat.le_of_ble_eq_true rfl)
  rw [lg_entry_eq]
  generalize (lg_sl ([.ref (b + 1), .int x1]) ++ List.replicate (3 - (lg_sl ([.ref (b + 1), .int x1])).length) Slot.unset).toArray = ls at hl ⊢
  have hl : lv_has ls 3 [(0, .ref (b + 1)), (1, .int x1)] := hl
  obtain ⟨H, hH⟩ : ∃ H, H = s.heap := ⟨_, rfl⟩
  obtain ⟨locs, hL⟩ : ∃ L : List Loc, L = [] := ⟨_, rfl⟩
  rw [← hH, ← hL] at hw
  suffices hg : W p l e rmX2_tellOne s m _ below meth c H locs 0 0 (MQ below (va_Qi (fun x (_ : Unit) => x = res.1) (fun _ t => PW E b res.2 TC MM TM t) (AA b)) _ s 0 0 (AA b)) (F0 m 0 ls []) by rw [hH, hL] at hg; exact hg
  clear hH hL
  rw [gX2_tellOne] at hf
  refine lv_aload_n hx hb dX2_tellOne_0 rfl (lv_at hl 0 rfl) ?_
  refine lv_iconst (v := 0) hx hb dX2_tellOne_1 (by decide) ?_
  refine lv_bipush (v := 9) hx hb dX2_tellOne_2 (by decide) ?_
  obtain ⟨u8, q9, hf⟩ := ob hf
  refine cVi (As := [.int 0, .int 9]) X hw (ctX2_isNumber l E b  q9) ⟨mw_368, mw_370, mw_6, mw_53, mw_371⟩ hd_X2_isNumber ⟨Nat.le_of_ble_eq_true rfl, Nat.le_of_ble_eq_true rfl, rfl, rfl⟩ (kdk kk_1 (by decide)) (ce_X2 E _ _ _ _ kk_1) (show vwCl[2]? = some (RX2, TX2, 8) from rfl) rfl hl.1 rfl (Nat.le_of_ble_eq_true rfl) dX2_tellOne_4 (fun H locs hw => ?_)
  refine lv_if_ne (tgt := 12) hx hb dX2_tellOne_7 (by decide) (fun c10 => ?_) (fun c10 => ?_)
  · replace hf := (if_neg c10).symm.trans hf
    refine lv_aload_n hx hb dX2_tellOne_12 rfl (lv_at hl 0 rfl) ?_
    refine gt_X2 X hw 1 kk_1 rfl (by decide) mw_138 rfl dX2_tellOne_13 ?_
    refine gt_X6 X hw 0 kk_4 rfl (by decide) mw_103 rfl dX2_tellOne_16 ?_
    refine lv_iload_n hx hb dX2_tellOne_19 rfl (lv_at hl 1 rfl) ?_
    refine lv_aload_n hx hb dX2_tellOne_20 rfl (lv_at hl 0 rfl) ?_
    refine gt_X2 X hw 5 kk_1 rfl (by decide) mw_143 rfl dX2_tellOne_21 ?_
    obtain ⟨M11, q12, hf⟩ := ob hf
    refine astC X hw kdv_5 q12 dX2_tellOne_24 (fun H locs hw => ?_)
    refine lv_aload_n hx hb dX2_tellOne_25 rfl (lv_at hl 0 rfl) ?_
    obtain ⟨u13, q14, hf⟩ := ob hf
    refine cVv (As := []) X hw (ctX2_advance l E b  q14) ⟨mw_335, mw_337, mw_0, mw_53, mw_338⟩ hd_X2_advance ⟨Nat.le_of_ble_eq_true rfl, Nat.le_of_ble_eq_true rfl, rfl, rfl⟩ (kdk kk_1 (by decide)) (ce_X2 E _ _ _ _ kk_1) (show vwCl[2]? = some (RX2, TX2, 8) from rfl) rfl hl.1 rfl (Nat.le_of_ble_eq_true rfl) dX2_tellOne_26 (fun H locs hw => ?_)
    refine lv_iconst (v := 0) hx hb dX2_tellOne_29 (by decide) ?_
    refine lv_istore_n (lv' := [(2, .int 0), (0, .ref (b + 1)), (1, .int x1)]) hx hb dX2_tellOne_30 rfl hl (by decide) rfl (fun ls hl => ?_)
    exact tX2_tellOne_31 X hr hlk FU x1 0 u13 hf H locs ls hw (lv_sub hl [1, 2, 0] rfl)
  · replace hf := (if_pos c10).symm.trans hf
    refine lv_iconst (v := 0) hx hb dX2_tellOne_10 (by decide) ?_
    replace hf := Option.some.inj hf
    subst hf
    exact eZ X hw (show (0 : Int32) = 0 ∨ (0 : Int32) = 1 by decide) hr hlk dX2_tellOne_11

abbrev rmX2_tellItem : Room := { frames := 4, cells := 0, slots := 0, locals := 84 }
theorem hd_X2_tellItem : Hd yX2_tellItem RX2 0 := by decide +kernel
def gX2_tellItem (M : Mem) : Option (Int32 × Mem) := (some (M 1 5)).bind fun z30 => if (M 1 4) = 1 then ((gX2_mayBegin z30 M).bind fun u32 => if u32 = 0 then (some (0, M)) else ((gX2_advance M).bind fun u35 => if z30 = 109 then ((gX2_tellLongest u35).bind fun u38 => (zr u38.1).bind fun v40 => some (v40, u38.2)) else (if z30 = 112 then ((gX2_tellOne (u35 4 3) u35).bind fun u43 => (zr u43.1).bind fun v45 => some (v45, u43.2)) else ((gX2_tellChair u35).bind fun u47 => (zr u47.1).bind fun v49 => some (v49, u47.2))))) else (some (0, M))
set_option maxHeartbeats 4000000 in
set_option maxRecDepth 100000 in
theorem ctX2_tellItem (l : Launch) (E : EE) (b : Nat) {TC : Int64} {MM : Mem} {TM : Int64} {M : Mem} {res : Int32 × Mem}  (hf : gX2_tellItem M = some res) : MetI l E b yX2_tellItem (.code yX2_tellItem cX2_tellItem 2 (some .boolean)) rmX2_tellItem [.ref (b + 1)] M TC MM TM res.1 res.2 TC MM TM := by
  refine Met.ofW (cc := cX2_tellItem) (maxL := 2) (ret := (some .boolean)) (by decide) rfl ?_
  intro p e s m args below meth c s₁ B hml hv
  obtain ⟨rfl, hP, hK⟩ := hv
  have hx := B.exec
  have hb := B.bytes
  have X : CX E p s m _ c cX2_tellItem 2 RX2 := ⟨hx, hb, hml, findClass_of_methodNamed B.named, fun w h => atoms_spec (ws := _ :: wt) B.pre w (List.mem_cons_of_mem _ h), hK⟩
  have hr := B.returns
  have hlk := B.notSynchronized
  have hw : WW E b M TC MM TM s s.heap [] := ⟨hP, va_S.rf⟩
  have hl := lv_entry ([.ref (b + 1)]) (n := 2) (Nat.le_of_ble_eq_true rfl)
  rw [lg_entry_eq]
  generalize (lg_sl ([.ref (b + 1)]) ++ List.replicate (2 - (lg_sl ([.ref (b + 1)])).length) Slot.unset).toArray = ls at hl ⊢
  have hl : lv_has ls 2 [(0, .ref (b + 1))] := hl
  obtain ⟨H, hH⟩ : ∃ H, H = s.heap := ⟨_, rfl⟩
  obtain ⟨locs, hL⟩ : ∃ L : List Loc, L = [] := ⟨_, rfl⟩
  rw [← hH, ← hL] at hw
  suffices hg : W p l e rmX2_tellItem s m _ below meth c H locs 0 0 (MQ below (va_Qi (fun x (_ : Unit) => x = res.1) (fun _ t => PW E b res.2 TC MM TM t) (AA b)) _ s 0 0 (AA b)) (F0 m 0 ls []) by rw [hH, hL] at hg; exact hg
  clear hH hL
  rw [gX2_tellItem] at hf
  refine lv_aload_n hx hb dX2_tellItem_0 rfl (lv_at hl 0 rfl) ?_
  refine gt_X2 X hw 5 kk_1 rfl (by decide) mw_143 rfl dX2_tellItem_1 ?_
  refine lv_topi (fun z30 ez30 => ?_)
  replace hf := nmb hf ez30
  refine lv_istore_n (lv' := [(1, .int z30), (0, .ref (b + 1))]) hx hb dX2_tellItem_4 rfl hl (by decide) rfl (fun ls hl => ?_)
  refine lv_aload_n hx hb dX2_tellItem_5 rfl (lv_at hl 1 rfl) ?_
  refine gt_X2 X hw 4 kk_1 rfl (by decide) mw_142 rfl dX2_tellItem_6 ?_
  refine lv_iconst (v := 1) hx hb dX2_tellItem_9 (by decide) ?_
  refine lv_icmp_ne (tgt := 21) hx hb dX2_tellItem_10 (by decide) (fun c31 => ?_) (fun c31 => ?_)
  · replace hf := (if_neg c31).symm.trans hf
    refine lv_iconst (v := 0) hx hb dX2_tellItem_21 (by decide) ?_
    replace hf := Option.some.inj hf
    subst hf
    exact eZ X hw (show (0 : Int32) = 0 ∨ (0 : Int32) = 1 by decide) hr hlk dX2_tellItem_22
  · replace hf := (if_pos c31).symm.trans hf
    refine lv_aload_n hx hb dX2_tellItem_13 rfl (lv_at hl 1 rfl) ?_
    refine lv_iload_n hx hb dX2_tellItem_14 rfl (lv_at hl 0 rfl) ?_
    obtain ⟨u32, q33, hf⟩ := ob hf
    refine cVi (As := [.int z30]) X hw (ctX2_mayBegin l E b  q33) ⟨mw_360, mw_362, mw_4, mw_53, mw_363⟩ hd_X2_mayBegin ⟨Nat.le_of_ble_eq_true rfl, Nat.le_of_ble_eq_true rfl, rfl, rfl⟩ (kdk kk_1 (by decide)) (ce_X2 E _ _ _ _ kk_1) (show vwCl[2]? = some (RX2, TX2, 8) from rfl) rfl hl.1 rfl (Nat.le_of_ble_eq_true rfl) dX2_tellItem_15 (fun H locs hw => ?_)
    refine lv_if_ne (tgt := 23) hx hb dX2_tellItem_18 (by decide) (fun c34 => ?_) (fun c34 => ?_)
    · replace hf := (if_neg c34).symm.trans hf
      refine lv_aload_n hx hb dX2_tellItem_23 rfl (lv_at hl 1 rfl) ?_
      obtain ⟨u35, q36, hf⟩ := ob hf
      refine cVv (As := []) X hw (ctX2_advance l E b  q36) ⟨mw_335, mw_337, mw_0, mw_53, mw_338⟩ hd_X2_advance ⟨Nat.le_of_ble_eq_true rfl, Nat.le_of_ble_eq_true rfl, rfl, rfl⟩ (kdk kk_1 (by decide)) (ce_X2 E _ _ _ _ kk_1) (show vwCl[2]? = some (RX2, TX2, 8) from rfl) rfl hl.1 rfl (Nat.le_of_ble_eq_true rfl) dX2_tellItem_24 (fun H locs hw => ?_)
      refine lv_iload_n hx hb dX2_tellItem_27 rfl (lv_at hl 0 rfl) ?_
      by_cases c37 : z30 = 109
      · replace hf := (if_pos c37).symm.trans hf
        refine lv_lookup (tgt := 68) (off := 40) hx hb dX2_tellItem_28 (by decide) (by rw [c37]; rfl) (by decide) ?_
        refine lv_aload_n hx hb dX2_tellItem_68 rfl (lv_at hl 1 rfl) ?_
        obtain ⟨u38, q39, hf⟩ := ob hf
        refine cVi (As := []) X hw (ctX2_tellLongest l E b  q39) ⟨mw_373, mw_375, mw_7, mw_53, mw_376⟩ hd_X2_tellLongest ⟨Nat.le_of_ble_eq_true rfl, Nat.le_of_ble_eq_true rfl, rfl, rfl⟩ (kdk kk_1 (by decide)) (ce_X2 E _ _ _ _ kk_1) (show vwCl[2]? = some (RX2, TX2, 8) from rfl) rfl hl.1 rfl (Nat.le_of_ble_eq_true rfl) dX2_tellItem_69 (fun H locs hw => ?_)
        obtain ⟨v40, q41, hf⟩ := ob hf
        obtain ⟨eq41, q41⟩ := zr_s q41
        rw [eq41]
        replace hf := Option.some.inj hf
        subst hf
        exact eZ X hw q41 hr hlk dX2_tellItem_72
      · replace hf := (if_neg c37).symm.trans hf
        by_cases c42 : z30 = 112
        · replace hf := (if_pos c42).symm.trans hf
          refine lv_lookup (tgt := 56) (off := 28) hx hb dX2_tellItem_28 (by decide) (by rw [c42]; rfl) (by decide) ?_
          refine lv_aload_n hx hb dX2_tellItem_56 rfl (lv_at hl 1 rfl) ?_
          refine lv_aload_n hx hb dX2_tellItem_57 rfl (lv_at hl 1 rfl) ?_
          refine gt_X2 X hw 1 kk_1 rfl (by decide) mw_138 rfl dX2_tellItem_58 ?_
          refine gt_X6 X hw 3 kk_4 rfl (by decide) mw_112 rfl dX2_tellItem_61 ?_
          obtain ⟨u43, q44, hf⟩ := ob hf
          refine cVi (As := [.int (u35 4 3)]) X hw (ctX2_tellOne l E b  q44) ⟨mw_364, mw_366, mw_5, mw_53, mw_367⟩ hd_X2_tellOne ⟨Nat.le_of_ble_eq_true rfl, Nat.le_of_ble_eq_true rfl, rfl, rfl⟩ (kdk kk_1 (by decide)) (ce_X2 E _ _ _ _ kk_1) (show vwCl[2]? = some (RX2, TX2, 8) from rfl) rfl hl.1 rfl (Nat.le_of_ble_eq_true rfl) dX2_tellItem_64 (fun H locs hw => ?_)
          obtain ⟨v45, q46, hf⟩ := ob hf
          obtain ⟨eq46, q46⟩ := zr_s q46
          rw [eq46]
          replace hf := Option.some.inj hf
          subst hf
          exact eZ X hw q46 hr hlk dX2_tellItem_67
        · replace hf := (if_neg c42).symm.trans hf
          have nc37 : z30.toInt ≠ 109 := fun q => c37 (Int32.toInt_inj.mp (q.trans (by decide)))
          have nc42 : z30.toInt ≠ 112 := fun q => c42 (Int32.toInt_inj.mp (q.trans (by decide)))
          refine lv_lookup (tgt := 73) (off := 45) hx hb dX2_tellItem_28 (by decide) (by simp [Op.lookupswitch.offset, List.find?, beq_false_of_ne nc37, beq_false_of_ne (Ne.symm nc37), nc37, Ne.symm nc37, beq_false_of_ne nc42, beq_false_of_ne (Ne.symm nc42), nc42, Ne.symm nc42]) (by decide) ?_
          refine lv_aload_n hx hb dX2_tellItem_73 rfl (lv_at hl 1 rfl) ?_
          obtain ⟨u47, q48, hf⟩ := ob hf
          refine cVi (As := []) X hw (ctX2_tellChair l E b  q48) ⟨mw_377, mw_379, mw_8, mw_53, mw_380⟩ hd_X2_tellChair ⟨Nat.le_of_ble_eq_true rfl, Nat.le_of_ble_eq_true rfl, rfl, rfl⟩ (kdk kk_1 (by decide)) (ce_X2 E _ _ _ _ kk_1) (show vwCl[2]? = some (RX2, TX2, 8) from rfl) rfl hl.1 rfl (Nat.le_of_ble_eq_true rfl) dX2_tellItem_74 (fun H locs hw => ?_)
          obtain ⟨v49, q50, hf⟩ := ob hf
          obtain ⟨eq50, q50⟩ := zr_s q50
          rw [eq50]
          replace hf := Option.some.inj hf
          subst hf
          exact eZ X hw q50 hr hlk dX2_tellItem_77
    · replace hf := (if_pos c34).symm.trans hf
      refine lv_iconst (v := 0) hx hb dX2_tellItem_21 (by decide) ?_
      replace hf := Option.some.inj hf
      subst hf
      exact eZ X hw (show (0 : Int32) = 0 ∨ (0 : Int32) = 1 by decide) hr hlk dX2_tellItem_22

abbrev rmX2_tellAll : Room := { frames := 5, cells := 0, slots := 0, locals := 105 }
theorem hd_X2_tellAll : Hd yX2_tellAll RX2 0 := by decide +kernel
def gX2_tellAll_74   (x1 : Int32) (M : Mem) : Option (Int32 × Mem) := some (x1, M)
def gX2_tellAll_56   (M : Mem) : Option (Int32 × Mem) := some (((-10)) - (M 1 3), M)
def gX2_tellAll_28   : Nat → Int32 → Mem → Option (Int32 × Mem)
  | 0, _, _ => none
  | n + 1, x1, M => if 120 ≤ x1 then (gX2_tellAll_74 x1 M) else (if (M 1 4) = 0 then (gX2_tellAll_74 x1 M) else ((gX2_tellItem M).bind fun u60 => if u60.1 = 0 then (gX2_tellAll_56 u60.2) else (if (u60.2 1 4) = 3 then ((gX2_advance u60.2).bind fun u64 => (some (x1 + 1)).bind fun z66 => (gX2_tellAll_28 n) z66 u64) else (gX2_tellAll_56 u60.2))))
def gX2_tellAll (M : Mem) : Option (Int32 × Mem) := (gX6_begin 4 M).bind fun u51 => (some (us u51 1 6 0)).bind fun M53 => (some (us M53 1 7 0)).bind fun M54 => (some (us M54 1 2 0)).bind fun M55 => (gX2_advance M55).bind fun u56 => gX2_tellAll_28 FU 0 u56
set_option maxHeartbeats 4000000 in
set_option maxRecDepth 100000 in
theorem tX2_tellAll_74 {p : Program} {l : Launch} {e : Env} {s : State} {m : MethodId} {args : Array Value} {below : List Frame} {meth : Method} {c : Code} {E : EE} {b : Nat} {TC : Int64} {MM : Mem} {TM : Int64} {res : Int32 × Mem} (X : CX E p s m args c cX2_tellAll 2 RX2) (hr : meth.sig.returnType = (some .int)) (hlk : meth.locks = false)    : ∀ (x1 : Int32) (M : Mem), gX2_tellAll_74 x1 M = some res → ∀ (H : Heap) (locs : List Loc) (ls : Array Slot), WW E b M TC MM TM s H locs → lv_has ls 2 [(1, .int x1)] → W p l e rmX2_tellAll s m args below meth c H locs 0 0 (MQ below (va_Qi (fun x (_ : Unit) => x = res.1) (fun _ t => PW E b res.2 TC MM TM t) (AA b)) args s 0 0 (AA b)) (F0 m 74 ls []) := by
  have hx := X.1
  have hb := X.2.1
  intro x1 M hf H locs ls hw hl
  rw [gX2_tellAll_74] at hf
  refine lv_iload_n hx hb dX2_tellAll_74 rfl (lv_at hl 0 rfl) ?_
  replace hf := Option.some.inj hf
  subst hf
  exact eI X hw hr hlk dX2_tellAll_75
set_option maxHeartbeats 4000000 in
set_option maxRecDepth 100000 in
theorem tX2_tellAll_56 {p : Program} {l : Launch} {e : Env} {s : State} {m : MethodId} {args : Array Value} {below : List Frame} {meth : Method} {c : Code} {E : EE} {b : Nat} {TC : Int64} {MM : Mem} {TM : Int64} {res : Int32 × Mem} (X : CX E p s m args c cX2_tellAll 2 RX2) (hr : meth.sig.returnType = (some .int)) (hlk : meth.locks = false)    : ∀ (M : Mem), gX2_tellAll_56 M = some res → ∀ (H : Heap) (locs : List Loc) (ls : Array Slot), WW E b M TC MM TM s H locs → lv_has ls 2 [(0, .ref (b + 1))] → W p l e rmX2_tellAll s m args below meth c H locs 0 0 (MQ below (va_Qi (fun x (_ : Unit) => x = res.1) (fun _ t => PW E b res.2 TC MM TM t) (AA b)) args s 0 0 (AA b)) (F0 m 56 ls []) := by
  have hx := X.1
  have hb := X.2.1
  intro M hf H locs ls hw hl
  rw [gX2_tellAll_56] at hf
  refine lv_bipush (v := (-10)) hx hb dX2_tellAll_56 (by decide) ?_
  refine lv_aload_n hx hb dX2_tellAll_58 rfl (lv_at hl 0 rfl) ?_
  refine gt_X2 X hw 3 kk_1 rfl (by decide) mw_141 rfl dX2_tellAll_59 ?_
  refine lv_isub hx hb dX2_tellAll_62 ?_
  replace hf := Option.some.inj hf
  subst hf
  exact eI X hw hr hlk dX2_tellAll_63
set_option maxHeartbeats 4000000 in
set_option maxRecDepth 100000 in
theorem tX2_tellAll_28 {p : Program} {l : Launch} {e : Env} {s : State} {m : MethodId} {args : Array Value} {below : List Frame} {meth : Method} {c : Code} {E : EE} {b : Nat} {TC : Int64} {MM : Mem} {TM : Int64} {res : Int32 × Mem} (X : CX E p s m args c cX2_tellAll 2 RX2) (hr : meth.sig.returnType = (some .int)) (hlk : meth.locks = false)    : ∀ (n : Nat) (x1 : Int32) (M : Mem), gX2_tellAll_28 n x1 M = some res → ∀ (H : Heap) (locs : List Loc) (ls : Array Slot), WW E b M TC MM TM s H locs → lv_has ls 2 [(0, .ref (b + 1)), (1, .int x1)] → W p l e rmX2_tellAll s m args below meth c H locs 0 0 (MQ below (va_Qi (fun x (_ : Unit) => x = res.1) (fun _ t => PW E b res.2 TC MM TM t) (AA b)) args s 0 0 (AA b)) (F0 m 28 ls []) := by
  have hx := X.1
  have hb := X.2.1
  intro n
  induction n with
  | zero =>
    intro x1 M hf
    cases (show (none : Option (Int32 × Mem)) = some res from hf)
  | succ n ih =>
    intro x1 M hf H locs ls hw hl
    rw [gX2_tellAll_28] at hf
    refine lv_iload_n hx hb dX2_tellAll_28 rfl (lv_at hl 1 rfl) ?_
    refine lv_bipush (v := 120) hx hb dX2_tellAll_29 (by decide) ?_
    refine lv_icmp_ge (tgt := 74) hx hb dX2_tellAll_31 (by decide) (fun c58 => ?_) (fun c58 => ?_)
    · replace hf := (if_pos c58).symm.trans hf
      exact tX2_tellAll_74 X hr hlk x1 M hf H locs ls hw (lv_sub hl [1] rfl)
    · replace hf := (if_neg c58).symm.trans hf
      refine lv_aload_n hx hb dX2_tellAll_34 rfl (lv_at hl 0 rfl) ?_
      refine gt_X2 X hw 4 kk_1 rfl (by decide) mw_142 rfl dX2_tellAll_35 ?_
      refine lv_if_eq (tgt := 74) hx hb dX2_tellAll_38 (by decide) (fun c59 => ?_) (fun c59 => ?_)
      · replace hf := (if_pos c59).symm.trans hf
        exact tX2_tellAll_74 X hr hlk x1 M hf H locs ls hw (lv_sub hl [1] rfl)
      · replace hf := (if_neg c59).symm.trans hf
        refine lv_aload_n hx hb dX2_tellAll_41 rfl (lv_at hl 0 rfl) ?_
        obtain ⟨u60, q61, hf⟩ := ob hf
        refine cVi (As := []) X hw (ctX2_tellItem l E b  q61) ⟨mw_356, mw_358, mw_3, mw_53, mw_359⟩ hd_X2_tellItem ⟨Nat.le_of_ble_eq_true rfl, Nat.le_of_ble_eq_true rfl, rfl, rfl⟩ (kdk kk_1 (by decide)) (ce_X2 E _ _ _ _ kk_1) (show vwCl[2]? = some (RX2, TX2, 8) from rfl) rfl hl.1 rfl (Nat.le_of_ble_eq_true rfl) dX2_tellAll_42 (fun H locs hw => ?_)
        refine lv_if_eq (tgt := 56) hx hb dX2_tellAll_45 (by decide) (fun c62 => ?_) (fun c62 => ?_)
        · replace hf := (if_pos c62).symm.trans hf
          exact tX2_tellAll_56 X hr hlk u60.2 hf H locs ls hw (lv_sub hl [0] rfl)
        · replace hf := (if_neg c62).symm.trans hf
          refine lv_aload_n hx hb dX2_tellAll_48 rfl (lv_at hl 0 rfl) ?_
          refine gt_X2 X hw 4 kk_1 rfl (by decide) mw_142 rfl dX2_tellAll_49 ?_
          refine lv_iconst (v := 3) hx hb dX2_tellAll_52 (by decide) ?_
          refine lv_icmp_eq (tgt := 64) hx hb dX2_tellAll_53 (by decide) (fun c63 => ?_) (fun c63 => ?_)
          · replace hf := (if_pos c63).symm.trans hf
            refine lv_aload_n hx hb dX2_tellAll_64 rfl (lv_at hl 0 rfl) ?_
            obtain ⟨u64, q65, hf⟩ := ob hf
            refine cVv (As := []) X hw (ctX2_advance l E b  q65) ⟨mw_335, mw_337, mw_0, mw_53, mw_338⟩ hd_X2_advance ⟨Nat.le_of_ble_eq_true rfl, Nat.le_of_ble_eq_true rfl, rfl, rfl⟩ (kdk kk_1 (by decide)) (ce_X2 E _ _ _ _ kk_1) (show vwCl[2]? = some (RX2, TX2, 8) from rfl) rfl hl.1 rfl (Nat.le_of_ble_eq_true rfl) dX2_tellAll_65 (fun H locs hw => ?_)
            obtain ⟨z66, ez66⟩ : ∃ y : Int32, y = x1 + 1 := ⟨_, rfl⟩
            replace hf := nmb hf ez66
            refine lv_iinc (v := z66) (lv' := [(1, .int z66), (0, .ref (b + 1))]) hx hb dX2_tellAll_68 hl (k := 1) rfl (by rw [ez66]; rfl) (by decide) rfl (fun ls hl => ?_)
            refine lv_goto (tgt := 28) hx hb dX2_tellAll_71 (by decide) ?_
            exact ih z66 u64 hf H locs ls hw (lv_sub hl [1, 0] rfl)
          · replace hf := (if_neg c63).symm.trans hf
            exact tX2_tellAll_56 X hr hlk u60.2 hf H locs ls hw (lv_sub hl [0] rfl)
set_option maxHeartbeats 4000000 in
set_option maxRecDepth 100000 in
theorem ctX2_tellAll (l : Launch) (E : EE) (b : Nat) {TC : Int64} {MM : Mem} {TM : Int64} {M : Mem} {res : Int32 × Mem}  (hf : gX2_tellAll M = some res) : MetI l E b yX2_tellAll (.code yX2_tellAll cX2_tellAll 2 (some .int)) rmX2_tellAll [.ref (b + 1)] M TC MM TM res.1 res.2 TC MM TM := by
  refine Met.ofW (cc := cX2_tellAll) (maxL := 2) (ret := (some .int)) (by decide) rfl ?_
  intro p e s m args below meth c s₁ B hml hv
  obtain ⟨rfl, hP, hK⟩ := hv
  have hx := B.exec
  have hb := B.bytes
  have X : CX E p s m _ c cX2_tellAll 2 RX2 := ⟨hx, hb, hml, findClass_of_methodNamed B.named, fun w h => atoms_spec (ws := _ :: wt) B.pre w (List.mem_cons_of_mem _ h), hK⟩
  have hr := B.returns
  have hlk := B.notSynchronized
  have hw : WW E b M TC MM TM s s.heap [] := ⟨hP, va_S.rf⟩
  have hl := lv_entry ([.ref (b + 1)]) (n := 2) (Nat.le_of_ble_eq_true rfl)
  rw [lg_entry_eq]
  generalize (lg_sl ([.ref (b + 1)]) ++ List.replicate (2 - (lg_sl ([.ref (b + 1)])).length) Slot.unset).toArray = ls at hl ⊢
  have hl : lv_has ls 2 [(0, .ref (b + 1))] := hl
  obtain ⟨H, hH⟩ : ∃ H, H = s.heap := ⟨_, rfl⟩
  obtain ⟨locs, hL⟩ : ∃ L : List Loc, L = [] := ⟨_, rfl⟩
  rw [← hH, ← hL] at hw
  suffices hg : W p l e rmX2_tellAll s m _ below meth c H locs 0 0 (MQ below (va_Qi (fun x (_ : Unit) => x = res.1) (fun _ t => PW E b res.2 TC MM TM t) (AA b)) _ s 0 0 (AA b)) (F0 m 0 ls []) by rw [hH, hL] at hg; exact hg
  clear hH hL
  rw [gX2_tellAll] at hf
  refine lv_aload_n hx hb dX2_tellAll_0 rfl (lv_at hl 0 rfl) ?_
  refine gt_X2 X hw 1 kk_1 rfl (by decide) mw_138 rfl dX2_tellAll_1 ?_
  obtain ⟨u51, q52, hf⟩ := ob hf
  refine cVv (As := []) X hw (ctX6_begin l E b kk_4 q52) ⟨mw_331, mw_332, mw_333, mw_55, mw_334⟩ hd_X6_begin ⟨Nat.le_of_ble_eq_true rfl, Nat.le_of_ble_eq_true rfl, rfl, rfl⟩ (kdk kk_4 (by decide)) (ce_X6 E _ _ _ _ kk_4) (show vwCl[6]? = some (RX6, TX6, 6) from rfl) rfl hl.1 rfl (Nat.le_of_ble_eq_true rfl) dX2_tellAll_4 (fun H locs hw => ?_)
  refine lv_aload_n hx hb dX2_tellAll_7 rfl (lv_at hl 0 rfl) ?_
  refine lv_iconst (v := 0) hx hb dX2_tellAll_8 (by decide) ?_
  obtain ⟨M53, eM53, hf⟩ := ob hf
  refine pt_X2_6 X hw kk_1 (by decide) mw_144 dX2_tellAll_9 (fun H locs hw => ?_)
  rw [Option.some.inj eM53] at hw
  refine lv_aload_n hx hb dX2_tellAll_12 rfl (lv_at hl 0 rfl) ?_
  refine lv_iconst (v := 0) hx hb dX2_tellAll_13 (by decide) ?_
  obtain ⟨M54, eM54, hf⟩ := ob hf
  refine pt_X2_7 X hw kk_1 (by decide) mw_145 dX2_tellAll_14 (fun H locs hw => ?_)
  rw [Option.some.inj eM54] at hw
  refine lv_aload_n hx hb dX2_tellAll_17 rfl (lv_at hl 0 rfl) ?_
  refine lv_iconst (v := 0) hx hb dX2_tellAll_18 (by decide) ?_
  obtain ⟨M55, eM55, hf⟩ := ob hf
  refine pt_X2_2 X hw kk_1 mw_140 dX2_tellAll_19 (fun H locs hw => ?_)
  rw [Option.some.inj eM55] at hw
  refine lv_aload_n hx hb dX2_tellAll_22 rfl (lv_at hl 0 rfl) ?_
  obtain ⟨u56, q57, hf⟩ := ob hf
  refine cVv (As := []) X hw (ctX2_advance l E b  q57) ⟨mw_335, mw_337, mw_0, mw_53, mw_338⟩ hd_X2_advance ⟨Nat.le_of_ble_eq_true rfl, Nat.le_of_ble_eq_true rfl, rfl, rfl⟩ (kdk kk_1 (by decide)) (ce_X2 E _ _ _ _ kk_1) (show vwCl[2]? = some (RX2, TX2, 8) from rfl) rfl hl.1 rfl (Nat.le_of_ble_eq_true rfl) dX2_tellAll_23 (fun H locs hw => ?_)
  refine lv_iconst (v := 0) hx hb dX2_tellAll_26 (by decide) ?_
  refine lv_istore_n (lv' := [(1, .int 0), (0, .ref (b + 1))]) hx hb dX2_tellAll_27 rfl hl (by decide) rfl (fun ls hl => ?_)
  exact tX2_tellAll_28 X hr hlk FU 0 u56 hf H locs ls hw (lv_sub hl [1, 0] rfl)

abbrev rmX7_type : Room := { frames := 1, cells := 0, slots := 0, locals := 22 }
theorem hd_X7_type : Hd yX7_type RX7 1 := by decide +kernel
def gX7_type (x1 : Int32) (M : Mem) : Option (Int32 × Mem) := (gX7_within x1 0 255).bind fun u67 => if u67 = 0 then (some ((-1), M)) else (if (M 2 1) < 120 then ((stA 120 M 3 (M 2 1) x1).bind fun M71 => (some (us M71 2 1 ((M71 2 1) + 1))).bind fun M73 => some (M73 2 1, M73)) else (some ((-3), M)))
set_option maxHeartbeats 4000000 in
set_option maxRecDepth 100000 in
theorem ctX7_type (l : Launch) (E : EE) (b : Nat) {TC : Int64} {MM : Mem} {TM : Int64} {x1 : Int32} {M : Mem} {res : Int32 × Mem}  (hf : gX7_type x1 M = some res) : MetI l E b yX7_type (.code yX7_type cX7_type 2 (some .int)) rmX7_type [.ref (b + 0), .int x1] M TC MM TM res.1 res.2 TC MM TM := by
  refine Met.ofW (cc := cX7_type) (maxL := 2) (ret := (some .int)) (by decide) rfl ?_
  intro p e s m args below meth c s₁ B hml hv
  obtain ⟨rfl, hP, hK⟩ := hv
  have hx := B.exec
  have hb := B.bytes
  have X : CX E p s m _ c cX7_type 2 RX7 := ⟨hx, hb, hml, findClass_of_methodNamed B.named, fun w h => atoms_spec (ws := _ :: wt) B.pre w (List.mem_cons_of_mem _ h), hK⟩
  have hr := B.returns
  have hlk := B.notSynchronized
  have hw : WW E b M TC MM TM s s.heap [] := ⟨hP, va_S.rf⟩
  have hl := lv_entry ([.ref (b + 0), .int x1]) (n := 2) (Nat.le_of_ble_eq_true rfl)
  rw [lg_entry_eq]
  generalize (lg_sl ([.ref (b + 0), .int x1]) ++ List.replicate (2 - (lg_sl ([.ref (b + 0), .int x1])).length) Slot.unset).toArray = ls at hl ⊢
  have hl : lv_has ls 2 [(0, .ref (b + 0)), (1, .int x1)] := hl
  obtain ⟨H, hH⟩ : ∃ H, H = s.heap := ⟨_, rfl⟩
  obtain ⟨locs, hL⟩ : ∃ L : List Loc, L = [] := ⟨_, rfl⟩
  rw [← hH, ← hL] at hw
  suffices hg : W p l e rmX7_type s m _ below meth c H locs 0 0 (MQ below (va_Qi (fun x (_ : Unit) => x = res.1) (fun _ t => PW E b res.2 TC MM TM t) (AA b)) _ s 0 0 (AA b)) (F0 m 0 ls []) by rw [hH, hL] at hg; exact hg
  clear hH hL
  rw [gX7_type] at hf
  refine lv_iload_n hx hb dX7_type_0 rfl (lv_at hl 1 rfl) ?_
  refine lv_iconst (v := 0) hx hb dX7_type_1 (by decide) ?_
  refine lv_sipush (v := 255) hx hb dX7_type_2 (by decide) ?_
  obtain ⟨u67, q68, hf⟩ := ob hf
  refine cSi (As := [.int x1, .int 0, .int 255]) X hw (ctX7_within l E b  q68) ⟨mw_316, mw_317, mw_52, mw_318⟩ hd_X7_within ⟨Nat.le_of_ble_eq_true rfl, Nat.le_of_ble_eq_true rfl, rfl, rfl⟩ rfl hl.1 rfl (Nat.le_of_ble_eq_true rfl) dX7_type_5 (fun H locs hw => ?_)
  refine lv_if_ne (tgt := 13) hx hb dX7_type_8 (by decide) (fun c69 => ?_) (fun c69 => ?_)
  · replace hf := (if_neg c69).symm.trans hf
    refine lv_aload_n hx hb dX7_type_13 rfl (lv_at hl 0 rfl) ?_
    refine gt_X7 X hw 0 kk_0 rfl (by decide) mw_278 rfl dX7_type_14 ?_
    refine gt_X4 X hw 1 kk_2 rfl (by decide) mw_88 rfl dX7_type_17 ?_
    refine lv_bipush (v := 120) hx hb dX7_type_20 (by decide) ?_
    refine lv_icmp_lt (tgt := 28) hx hb dX7_type_22 (by decide) (fun c70 => ?_) (fun c70 => ?_)
    · replace hf := (if_pos c70).symm.trans hf
      refine lv_aload_n hx hb dX7_type_28 rfl (lv_at hl 0 rfl) ?_
      refine gt_X7 X hw 0 kk_0 rfl (by decide) mw_278 rfl dX7_type_29 ?_
      refine gt_X4 X hw 0 kk_2 rfl (by decide) mw_86 rfl dX7_type_32 ?_
      refine lv_aload_n hx hb dX7_type_35 rfl (lv_at hl 0 rfl) ?_
      refine gt_X7 X hw 0 kk_0 rfl (by decide) mw_278 rfl dX7_type_36 ?_
      refine gt_X4 X hw 1 kk_2 rfl (by decide) mw_88 rfl dX7_type_39 ?_
      refine lv_iload_n hx hb dX7_type_42 rfl (lv_at hl 1 rfl) ?_
      obtain ⟨M71, q72, hf⟩ := ob hf
      refine astC X hw kdv_3 q72 dX7_type_43 (fun H locs hw => ?_)
      refine lv_aload_n hx hb dX7_type_44 rfl (lv_at hl 0 rfl) ?_
      refine gt_X7 X hw 0 kk_0 rfl (by decide) mw_278 rfl dX7_type_45 ?_
      refine lv_dup hx hb dX7_type_48 rfl ?_
      refine gt_X4 X hw 1 kk_2 rfl (by decide) mw_88 rfl dX7_type_49 ?_
      refine lv_iconst (v := 1) hx hb dX7_type_52 (by decide) ?_
      refine lv_iadd hx hb dX7_type_53 ?_
      obtain ⟨M73, eM73, hf⟩ := ob hf
      refine pt_X4_1 X hw kk_2 mw_88 dX7_type_54 (fun H locs hw => ?_)
      rw [Option.some.inj eM73] at hw
      refine lv_aload_n hx hb dX7_type_57 rfl (lv_at hl 0 rfl) ?_
      refine gt_X7 X hw 0 kk_0 rfl (by decide) mw_278 rfl dX7_type_58 ?_
      refine gt_X4 X hw 1 kk_2 rfl (by decide) mw_88 rfl dX7_type_61 ?_
      replace hf := Option.some.inj hf
      subst hf
      exact eI X hw hr hlk dX7_type_64
    · replace hf := (if_neg c70).symm.trans hf
      refine lv_bipush (v := (-3)) hx hb dX7_type_25 (by decide) ?_
      replace hf := Option.some.inj hf
      subst hf
      exact eI X hw hr hlk dX7_type_27
  · replace hf := (if_pos c69).symm.trans hf
    refine lv_iconst (v := (-1)) hx hb dX7_type_11 (by decide) ?_
    replace hf := Option.some.inj hf
    subst hf
    exact eI X hw hr hlk dX7_type_12

abbrev rmX7_clear : Room := { frames := 0, cells := 0, slots := 0, locals := 0 }
theorem hd_X7_clear : Hd yX7_clear RX7 0 := by decide +kernel
def gX7_clear (M : Mem) : Option (Int32 × Mem) := (some (M 2 1)).bind fun z74 => (some (us M 2 1 0)).bind fun M75 => some (z74, M75)
set_option maxHeartbeats 4000000 in
set_option maxRecDepth 100000 in
theorem ctX7_clear (l : Launch) (E : EE) (b : Nat) {TC : Int64} {MM : Mem} {TM : Int64} {M : Mem} {res : Int32 × Mem}  (hf : gX7_clear M = some res) : MetI l E b yX7_clear (.code yX7_clear cX7_clear 2 (some .int)) rmX7_clear [.ref (b + 0)] M TC MM TM res.1 res.2 TC MM TM := by
  refine Met.ofW (cc := cX7_clear) (maxL := 2) (ret := (some .int)) (by decide) rfl ?_
  intro p e s m args below meth c s₁ B hml hv
  obtain ⟨rfl, hP, hK⟩ := hv
  have hx := B.exec
  have hb := B.bytes
  have X : CX E p s m _ c cX7_clear 2 RX7 := ⟨hx, hb, hml, findClass_of_methodNamed B.named, fun w h => atoms_spec (ws := _ :: wt) B.pre w (List.mem_cons_of_mem _ h), hK⟩
  have hr := B.returns
  have hlk := B.notSynchronized
  have hw : WW E b M TC MM TM s s.heap [] := ⟨hP, va_S.rf⟩
  have hl := lv_entry ([.ref (b + 0)]) (n := 2) (Nat.le_of_ble_eq_true rfl)
  rw [lg_entry_eq]
  generalize (lg_sl ([.ref (b + 0)]) ++ List.replicate (2 - (lg_sl ([.ref (b + 0)])).length) Slot.unset).toArray = ls at hl ⊢
  have hl : lv_has ls 2 [(0, .ref (b + 0))] := hl
  obtain ⟨H, hH⟩ : ∃ H, H = s.heap := ⟨_, rfl⟩
  obtain ⟨locs, hL⟩ : ∃ L : List Loc, L = [] := ⟨_, rfl⟩
  rw [← hH, ← hL] at hw
  suffices hg : W p l e rmX7_clear s m _ below meth c H locs 0 0 (MQ below (va_Qi (fun x (_ : Unit) => x = res.1) (fun _ t => PW E b res.2 TC MM TM t) (AA b)) _ s 0 0 (AA b)) (F0 m 0 ls []) by rw [hH, hL] at hg; exact hg
  clear hH hL
  rw [gX7_clear] at hf
  refine lv_aload_n hx hb dX7_clear_0 rfl (lv_at hl 0 rfl) ?_
  refine gt_X7 X hw 0 kk_0 rfl (by decide) mw_278 rfl dX7_clear_1 ?_
  refine gt_X4 X hw 1 kk_2 rfl (by decide) mw_88 rfl dX7_clear_4 ?_
  refine lv_topi (fun z74 ez74 => ?_)
  replace hf := nmb hf ez74
  refine lv_istore_n (lv' := [(1, .int z74), (0, .ref (b + 0))]) hx hb dX7_clear_7 rfl hl (by decide) rfl (fun ls hl => ?_)
  refine lv_aload_n hx hb dX7_clear_8 rfl (lv_at hl 1 rfl) ?_
  refine gt_X7 X hw 0 kk_0 rfl (by decide) mw_278 rfl dX7_clear_9 ?_
  refine lv_iconst (v := 0) hx hb dX7_clear_12 (by decide) ?_
  obtain ⟨M75, eM75, hf⟩ := ob hf
  refine pt_X4_1 X hw kk_2 mw_88 dX7_clear_13 (fun H locs hw => ?_)
  rw [Option.some.inj eM75] at hw
  refine lv_iload_n hx hb dX7_clear_16 rfl (lv_at hl 0 rfl) ?_
  replace hf := Option.some.inj hf
  subst hf
  exact eI X hw hr hlk dX7_clear_17

abbrev rmX7_shop : Room := { frames := 6, cells := 0, slots := 0, locals := 126 }
theorem hd_X7_shop : Hd yX7_shop RX7 0 := by decide +kernel
def gX7_shop_59   : Nat → Int32 → Int32 → Mem → Option (Int32 × Mem)
  | 0, _, _, _ => none
  | n + 1, x1, x2, M => if 2 ≤ x2 then (some (x1, M)) else ((stZ 2 M 180 x2 0).bind fun M87 => (some (x2 + 1)).bind fun z89 => (gX7_shop_59 n) x1 z89 M87)
def gX7_shop (M : Mem) : Option (Int32 × Mem) := (gX2_tellAll M).bind fun u76 => if 0 ≤ u76.1 then ((gX6_copyFrom 191 4 u76.2).bind fun u79 => (some (us u79 2 1 0)).bind fun M81 => (gX5_begin 8 (M81 191 5) M81).bind fun u82 => (gX0_drop u82).bind fun u84 => gX7_shop_59 FU u76.1 0 u84) else (some (u76.1, u76.2))
set_option maxHeartbeats 4000000 in
set_option maxRecDepth 100000 in
theorem tX7_shop_59 {p : Program} {l : Launch} {e : Env} {s : State} {m : MethodId} {args : Array Value} {below : List Frame} {meth : Method} {c : Code} {E : EE} {b : Nat} {TC : Int64} {MM : Mem} {TM : Int64} {res : Int32 × Mem} (X : CX E p s m args c cX7_shop 3 RX7) (hr : meth.sig.returnType = (some .int)) (hlk : meth.locks = false)    : ∀ (n : Nat) (x1 : Int32) (x2 : Int32) (M : Mem), gX7_shop_59 n x1 x2 M = some res → ∀ (H : Heap) (locs : List Loc) (ls : Array Slot), WW E b M TC MM TM s H locs → lv_has ls 3 [(0, .ref (b + 0)), (1, .int x1), (2, .int x2)] → W p l e rmX7_shop s m args below meth c H locs 0 0 (MQ below (va_Qi (fun x (_ : Unit) => x = res.1) (fun _ t => PW E b res.2 TC MM TM t) (AA b)) args s 0 0 (AA b)) (F0 m 59 ls []) := by
  have hx := X.1
  have hb := X.2.1
  intro n
  induction n with
  | zero =>
    intro x1 x2 M hf
    cases (show (none : Option (Int32 × Mem)) = some res from hf)
  | succ n ih =>
    intro x1 x2 M hf H locs ls hw hl
    rw [gX7_shop_59] at hf
    refine lv_iload_n hx hb dX7_shop_59 rfl (lv_at hl 2 rfl) ?_
    refine lv_iconst (v := 2) hx hb dX7_shop_60 (by decide) ?_
    refine lv_icmp_ge (tgt := 77) hx hb dX7_shop_61 (by decide) (fun c86 => ?_) (fun c86 => ?_)
    · replace hf := (if_pos c86).symm.trans hf
      refine lv_iload_n hx hb dX7_shop_77 rfl (lv_at hl 1 rfl) ?_
      replace hf := Option.some.inj hf
      subst hf
      exact eI X hw hr hlk dX7_shop_78
    · replace hf := (if_neg c86).symm.trans hf
      refine lv_aload_n hx hb dX7_shop_64 rfl (lv_at hl 0 rfl) ?_
      refine gt_X7 X hw 4 kk_0 rfl (by decide) mw_282 rfl dX7_shop_65 ?_
      refine lv_iload_n hx hb dX7_shop_68 rfl (lv_at hl 2 rfl) ?_
      refine lv_iconst (v := 0) hx hb dX7_shop_69 (by decide) ?_
      obtain ⟨M87, q88, hf⟩ := ob hf
      refine zstC X hw kdv_180 q88 dX7_shop_70 (fun H locs hw => ?_)
      obtain ⟨z89, ez89⟩ : ∃ y : Int32, y = x2 + 1 := ⟨_, rfl⟩
      replace hf := nmb hf ez89
      refine lv_iinc (v := z89) (lv' := [(2, .int z89), (0, .ref (b + 0)), (1, .int x1)]) hx hb dX7_shop_71 hl (k := 2) rfl (by rw [ez89]; rfl) (by decide) rfl (fun ls hl => ?_)
      refine lv_goto (tgt := 59) hx hb dX7_shop_74 (by decide) ?_
      exact ih x1 z89 M87 hf H locs ls hw (lv_sub hl [1, 2, 0] rfl)
set_option maxHeartbeats 4000000 in
set_option maxRecDepth 100000 in
theorem ctX7_shop (l : Launch) (E : EE) (b : Nat) {TC : Int64} {MM : Mem} {TM : Int64} {M : Mem} {res : Int32 × Mem}  (hf : gX7_shop M = some res) : MetI l E b yX7_shop (.code yX7_shop cX7_shop 3 (some .int)) rmX7_shop [.ref (b + 0)] M TC MM TM res.1 res.2 TC MM TM := by
  refine Met.ofW (cc := cX7_shop) (maxL := 3) (ret := (some .int)) (by decide) rfl ?_
  intro p e s m args below meth c s₁ B hml hv
  obtain ⟨rfl, hP, hK⟩ := hv
  have hx := B.exec
  have hb := B.bytes
  have X : CX E p s m _ c cX7_shop 3 RX7 := ⟨hx, hb, hml, findClass_of_methodNamed B.named, fun w h => atoms_spec (ws := _ :: wt) B.pre w (List.mem_cons_of_mem _ h), hK⟩
  have hr := B.returns
  have hlk := B.notSynchronized
  have hw : WW E b M TC MM TM s s.heap [] := ⟨hP, va_S.rf⟩
  have hl := lv_entry ([.ref (b + 0)]) (n := 3) (Nat.le_of_ble_eq_true rfl)
  rw [lg_entry_eq]
  generalize (lg_sl ([.ref (b + 0)]) ++ List.replicate (3 - (lg_sl ([.ref (b + 0)])).length) Slot.unset).toArray = ls at hl ⊢
  have hl : lv_has ls 3 [(0, .ref (b + 0))] := hl
  obtain ⟨H, hH⟩ : ∃ H, H = s.heap := ⟨_, rfl⟩
  obtain ⟨locs, hL⟩ : ∃ L : List Loc, L = [] := ⟨_, rfl⟩
  rw [← hH, ← hL] at hw
  suffices hg : W p l e rmX7_shop s m _ below meth c H locs 0 0 (MQ below (va_Qi (fun x (_ : Unit) => x = res.1) (fun _ t => PW E b res.2 TC MM TM t) (AA b)) _ s 0 0 (AA b)) (F0 m 0 ls []) by rw [hH, hL] at hg; exact hg
  clear hH hL
  rw [gX7_shop] at hf
  refine lv_aload_n hx hb dX7_shop_0 rfl (lv_at hl 0 rfl) ?_
  refine gt_X7 X hw 1 kk_0 rfl (by decide) mw_279 rfl dX7_shop_1 ?_
  obtain ⟨u76, q77, hf⟩ := ob hf
  refine cVi (As := []) X hw (ctX2_tellAll l E b  q77) ⟨mw_327, mw_328, mw_329, mw_53, mw_330⟩ hd_X2_tellAll ⟨Nat.le_of_ble_eq_true rfl, Nat.le_of_ble_eq_true rfl, rfl, rfl⟩ (kdk kk_1 (by decide)) (ce_X2 E _ _ _ _ kk_1) (show vwCl[2]? = some (RX2, TX2, 8) from rfl) rfl hl.1 rfl (Nat.le_of_ble_eq_true rfl) dX7_shop_4 (fun H locs hw => ?_)
  refine lv_istore_n (lv' := [(1, .int u76.1), (0, .ref (b + 0))]) hx hb dX7_shop_7 rfl hl (by decide) rfl (fun ls hl => ?_)
  refine lv_iload_n hx hb dX7_shop_8 rfl (lv_at hl 0 rfl) ?_
  refine lv_if_ge (tgt := 14) hx hb dX7_shop_9 (by decide) (fun c78 => ?_) (fun c78 => ?_)
  · replace hf := (if_pos c78).symm.trans hf
    refine lv_aload_n hx hb dX7_shop_14 rfl (lv_at hl 1 rfl) ?_
    refine gt_X7 X hw 7 kk_0 rfl (by decide) mw_285 rfl dX7_shop_15 ?_
    refine lv_aload_n hx hb dX7_shop_18 rfl (lv_at hl 1 rfl) ?_
    refine gt_X7 X hw 1 kk_0 rfl (by decide) mw_279 rfl dX7_shop_19 ?_
    refine gt_X2 X hw 1 kk_1 rfl (by decide) mw_139 rfl dX7_shop_22 ?_
    obtain ⟨u79, q80, hf⟩ := ob hf
    refine cVv (As := [.ref (b + 4)]) X hw (ctX6_copyFrom l E b kk_191 kk_4 q80) ⟨mw_381, mw_382, mw_383, mw_55, mw_384⟩ hd_X6_copyFrom ⟨Nat.le_of_ble_eq_true rfl, Nat.le_of_ble_eq_true rfl, rfl, rfl⟩ (kdk kk_191 (by decide)) (ce_X6 E _ _ _ _ kk_191) (show vwCl[6]? = some (RX6, TX6, 6) from rfl) rfl hl.1 rfl (Nat.le_of_ble_eq_true rfl) dX7_shop_25 (fun H locs hw => ?_)
    refine lv_aload_n hx hb dX7_shop_28 rfl (lv_at hl 1 rfl) ?_
    refine gt_X7 X hw 0 kk_0 rfl (by decide) mw_278 rfl dX7_shop_29 ?_
    refine lv_iconst (v := 0) hx hb dX7_shop_32 (by decide) ?_
    obtain ⟨M81, eM81, hf⟩ := ob hf
    refine pt_X4_1 X hw kk_2 mw_88 dX7_shop_33 (fun H locs hw => ?_)
    rw [Option.some.inj eM81] at hw
    refine lv_aload_n hx hb dX7_shop_36 rfl (lv_at hl 1 rfl) ?_
    refine gt_X7 X hw 2 kk_0 rfl (by decide) mw_280 rfl dX7_shop_37 ?_
    refine lv_aload_n hx hb dX7_shop_40 rfl (lv_at hl 1 rfl) ?_
    refine gt_X7 X hw 7 kk_0 rfl (by decide) mw_285 rfl dX7_shop_41 ?_
    refine gt_X6 X hw 5 kk_191 rfl (by decide) mw_121 rfl dX7_shop_44 ?_
    obtain ⟨u82, q83, hf⟩ := ob hf
    refine cVv (As := [.int (M81 191 5)]) X hw (ctX5_begin l E b kk_8 q83) ⟨mw_388, mw_389, mw_390, mw_56, mw_391⟩ hd_X5_begin ⟨Nat.le_of_ble_eq_true rfl, Nat.le_of_ble_eq_true rfl, rfl, rfl⟩ (kdk kk_8 (by decide)) (ce_X5 E _ _ _ _ kk_8) (show vwCl[5]? = some (RX5, TX5, 3) from rfl) rfl hl.1 rfl (Nat.le_of_ble_eq_true rfl) dX7_shop_47 (fun H locs hw => ?_)
    refine lv_aload_n hx hb dX7_shop_50 rfl (lv_at hl 1 rfl) ?_
    refine gt_X7 X hw 5 kk_0 rfl (by decide) mw_283 rfl dX7_shop_51 ?_
    obtain ⟨u84, q85, hf⟩ := ob hf
    refine cVv (As := []) X hw (ctX0_drop l E b  q85) ⟨mw_396, mw_397, mw_398, mw_59, mw_399⟩ hd_X0_drop ⟨Nat.le_of_ble_eq_true rfl, Nat.le_of_ble_eq_true rfl, rfl, rfl⟩ (kdk kk_181 (by decide)) (ce_X0 E _ _ _ _ kk_181) (show vwCl[0]? = some (RX0, TX0, 5) from rfl) rfl hl.1 rfl (Nat.le_of_ble_eq_true rfl) dX7_shop_54 (fun H locs hw => ?_)
    refine lv_iconst (v := 0) hx hb dX7_shop_57 (by decide) ?_
    refine lv_istore_n (lv' := [(2, .int 0), (1, .int u76.1), (0, .ref (b + 0))]) hx hb dX7_shop_58 rfl hl (by decide) rfl (fun ls hl => ?_)
    exact tX7_shop_59 X hr hlk FU u76.1 0 u84 hf H locs ls hw (lv_sub hl [2, 1, 0] rfl)
  · replace hf := (if_neg c78).symm.trans hf
    refine lv_iload_n hx hb dX7_shop_12 rfl (lv_at hl 0 rfl) ?_
    replace hf := Option.some.inj hf
    subst hf
    exact eI X hw hr hlk dX7_shop_13

abbrev rmX7_isOne : Room := { frames := 1, cells := 0, slots := 0, locals := 22 }
theorem hd_X7_isOne : Hd yX7_isOne RX7 1 := by decide +kernel
def gX7_isOne (x1 : Int32) (M : Mem) : Option (Int32) := (gX7_within x1 0 ((M 191 3) - 1)).bind fun u90 => (zr u90).bind fun v92 => some (v92)
set_option maxHeartbeats 4000000 in
set_option maxRecDepth 100000 in
theorem ctX7_isOne (l : Launch) (E : EE) (b : Nat) {TC : Int64} {MM : Mem} {TM : Int64} {x1 : Int32} {M : Mem} {res : Int32}  (hf : gX7_isOne x1 M = some res) : MetI l E b yX7_isOne (.code yX7_isOne cX7_isOne 2 (some .boolean)) rmX7_isOne [.ref (b + 0), .int x1] M TC MM TM res M TC MM TM := by
  refine Met.ofW (cc := cX7_isOne) (maxL := 2) (ret := (some .boolean)) (by decide) rfl ?_
  intro p e s m args below meth c s₁ B hml hv
  obtain ⟨rfl, hP, hK⟩ := hv
  have hx := B.exec
  have hb := B.bytes
  have X : CX E p s m _ c cX7_isOne 2 RX7 := ⟨hx, hb, hml, findClass_of_methodNamed B.named, fun w h => atoms_spec (ws := _ :: wt) B.pre w (List.mem_cons_of_mem _ h), hK⟩
  have hr := B.returns
  have hlk := B.notSynchronized
  have hw : WW E b M TC MM TM s s.heap [] := ⟨hP, va_S.rf⟩
  have hl := lv_entry ([.ref (b + 0), .int x1]) (n := 2) (Nat.le_of_ble_eq_true rfl)
  rw [lg_entry_eq]
  generalize (lg_sl ([.ref (b + 0), .int x1]) ++ List.replicate (2 - (lg_sl ([.ref (b + 0), .int x1])).length) Slot.unset).toArray = ls at hl ⊢
  have hl : lv_has ls 2 [(0, .ref (b + 0)), (1, .int x1)] := hl
  obtain ⟨H, hH⟩ : ∃ H, H = s.heap := ⟨_, rfl⟩
  obtain ⟨locs, hL⟩ : ∃ L : List Loc, L = [] := ⟨_, rfl⟩
  rw [← hH, ← hL] at hw
  suffices hg : W p l e rmX7_isOne s m _ below meth c H locs 0 0 (MQ below (va_Qi (fun x (_ : Unit) => x = res) (fun _ t => PW E b M TC MM TM t) (AA b)) _ s 0 0 (AA b)) (F0 m 0 ls []) by rw [hH, hL] at hg; exact hg
  clear hH hL
  rw [gX7_isOne] at hf
  refine lv_iload_n hx hb dX7_isOne_0 rfl (lv_at hl 1 rfl) ?_
  refine lv_iconst (v := 0) hx hb dX7_isOne_1 (by decide) ?_
  refine lv_aload_n hx hb dX7_isOne_2 rfl (lv_at hl 0 rfl) ?_
  refine gt_X7 X hw 7 kk_0 rfl (by decide) mw_285 rfl dX7_isOne_3 ?_
  refine gt_X6 X hw 3 kk_191 rfl (by decide) mw_114 rfl dX7_isOne_6 ?_
  refine lv_iconst (v := 1) hx hb dX7_isOne_9 (by decide) ?_
  refine lv_isub hx hb dX7_isOne_10 ?_
  obtain ⟨u90, q91, hf⟩ := ob hf
  refine cSi (As := [.int x1, .int 0, .int ((M 191 3) - 1)]) X hw (ctX7_within l E b  q91) ⟨mw_316, mw_317, mw_52, mw_318⟩ hd_X7_within ⟨Nat.le_of_ble_eq_true rfl, Nat.le_of_ble_eq_true rfl, rfl, rfl⟩ rfl hl.1 rfl (Nat.le_of_ble_eq_true rfl) dX7_isOne_11 (fun H locs hw => ?_)
  obtain ⟨v92, q93, hf⟩ := ob hf
  obtain ⟨eq93, q93⟩ := zr_s q93
  rw [eq93]
  replace hf := Option.some.inj hf
  subst hf
  exact eZ X hw q93 hr hlk dX7_isOne_14

abbrev rmX7_one : Room := { frames := 2, cells := 0, slots := 0, locals := 46 }
theorem hd_X7_one : Hd yX7_one RX7 2 := by decide +kernel
def gX7_one (x1 : Int32) (x2 : Int32) (M : Mem) : Option (Int32) := (gX7_isOne x1 M).bind fun u94 => if u94 = 0 then (some ((-1))) else (if x2 = 0 then ((ldA 5 (M 192) x1).bind fun v98 => some (v98)) else (if x2 = 1 then ((ldA 5 (M 193) x1).bind fun v101 => some (v101)) else (if x2 = 2 then ((ldA 5 (M 10) x1).bind fun v104 => some (v104)) else (if x2 = 3 then ((ldA 5 (M 11) x1).bind fun v107 => some (v107)) else (if x2 = 4 then ((ldA 5 (M 192) x1).bind fun v110 => (gX1_layersOf 9 x1 v110 M).bind fun u112 => some (u112)) else (some ((-1))))))))
set_option maxHeartbeats 4000000 in
set_option maxRecDepth 100000 in
theorem ctX7_one (l : Launch) (E : EE) (b : Nat) {TC : Int64} {MM : Mem} {TM : Int64} {x1 : Int32} {x2 : Int32} {M : Mem} {res : Int32}  (hf : gX7_one x1 x2 M = some res) : MetI l E b yX7_one (.code yX7_one cX7_one 4 (some .int)) rmX7_one [.ref (b + 0), .int x1, .int x2] M TC MM TM res M TC MM TM := by
  refine Met.ofW (cc := cX7_one) (maxL := 4) (ret := (some .int)) (by decide) rfl ?_
  intro p e s m args below meth c s₁ B hml hv
  obtain ⟨rfl, hP, hK⟩ := hv
  have hx := B.exec
  have hb := B.bytes
  have X : CX E p s m _ c cX7_one 4 RX7 := ⟨hx, hb, hml, findClass_of_methodNamed B.named, fun w h => atoms_spec (ws := _ :: wt) B.pre w (List.mem_cons_of_mem _ h), hK⟩
  have hr := B.returns
  have hlk := B.notSynchronized
  have hw : WW E b M TC MM TM s s.heap [] := ⟨hP, va_S.rf⟩
  have hl := lv_entry ([.ref (b + 0), .int x1, .int x2]) (n := 4) (Nat.le_of_ble_eq_true rfl)
  rw [lg_entry_eq]
  generalize (lg_sl ([.ref (b + 0), .int x1, .int x2]) ++ List.replicate (4 - (lg_sl ([.ref (b + 0), .int x1, .int x2])).length) Slot.unset).toArray = ls at hl ⊢
  have hl : lv_has ls 4 [(0, .ref (b + 0)), (1, .int x1), (2, .int x2)] := hl
  obtain ⟨H, hH⟩ : ∃ H, H = s.heap := ⟨_, rfl⟩
  obtain ⟨locs, hL⟩ : ∃ L : List Loc, L = [] := ⟨_, rfl⟩
  rw [← hH, ← hL] at hw
  suffices hg : W p l e rmX7_one s m _ below meth c H locs 0 0 (MQ below (va_Qi (fun x (_ : Unit) => x = res) (fun _ t => PW E b M TC MM TM t) (AA b)) _ s 0 0 (AA b)) (F0 m 0 ls []) by rw [hH, hL] at hg; exact hg
  clear hH hL
  rw [gX7_one] at hf
  refine lv_aload_n hx hb dX7_one_0 rfl (lv_at hl 0 rfl) ?_
  refine lv_iload_n hx hb dX7_one_1 rfl (lv_at hl 1 rfl) ?_
  obtain ⟨u94, q95, hf⟩ := ob hf
  refine cVi (As := [.int x1]) X hw (ctX7_isOne l E b  q95) ⟨mw_404, mw_406, mw_9, mw_52, mw_407⟩ hd_X7_isOne ⟨Nat.le_of_ble_eq_true rfl, Nat.le_of_ble_eq_true rfl, rfl, rfl⟩ (kdk kk_0 (by decide)) (ce_X7 E _ _ _ _ kk_0) (show vwCl[7]? = some (RX7, TX7, 11) from rfl) rfl hl.1 rfl (Nat.le_of_ble_eq_true rfl) dX7_one_2 (fun H locs hw => ?_)
  refine lv_if_ne (tgt := 10) hx hb dX7_one_5 (by decide) (fun c96 => ?_) (fun c96 => ?_)
  · replace hf := (if_neg c96).symm.trans hf
    refine lv_aload_n hx hb dX7_one_10 rfl (lv_at hl 0 rfl) ?_
    refine gt_X7 X hw 2 kk_0 rfl (by decide) mw_280 rfl dX7_one_11 ?_
    refine gt_X5 X hw 0 kk_8 rfl (by decide) mw_205 rfl dX7_one_14 ?_
    refine lv_astore_n (lv' := [(3, .ref (b + 9)), (0, .ref (b + 0)), (1, .int x1), (2, .int x2)]) hx hb dX7_one_17 rfl hl (by decide) rfl (fun ls hl => ?_)
    refine lv_iload_n hx hb dX7_one_18 rfl (lv_at hl 3 rfl) ?_
    by_cases c97 : x2 = 0
    · replace hf := (if_pos c97).symm.trans hf
      refine lv_tableIn (tgt := 52) (off := 33) hx hb dX7_one_19 (by rw [c97]; decide) (by rw [c97]; decide) (by rw [c97]; rfl) (by decide) ?_
      refine lv_aload_n hx hb dX7_one_52 rfl (lv_at hl 1 rfl) ?_
      refine gt_X7 X hw 7 kk_0 rfl (by decide) mw_285 rfl dX7_one_53 ?_
      refine gt_X6 X hw 0 kk_191 rfl (by decide) mw_104 rfl dX7_one_56 ?_
      refine lv_iload_n hx hb dX7_one_59 rfl (lv_at hl 2 rfl) ?_
      obtain ⟨v98, q99, hf⟩ := ob hf
      refine aldC X hw kdv_192 q99 dX7_one_60 ?_
      replace hf := Option.some.inj hf
      subst hf
      exact eI X hw hr hlk dX7_one_61
    · replace hf := (if_neg c97).symm.trans hf
      by_cases c100 : x2 = 1
      · replace hf := (if_pos c100).symm.trans hf
        refine lv_tableIn (tgt := 62) (off := 43) hx hb dX7_one_19 (by rw [c100]; decide) (by rw [c100]; decide) (by rw [c100]; rfl) (by decide) ?_
        refine lv_aload_n hx hb dX7_one_62 rfl (lv_at hl 1 rfl) ?_
        refine gt_X7 X hw 7 kk_0 rfl (by decide) mw_285 rfl dX7_one_63 ?_
        refine gt_X6 X hw 1 kk_191 rfl (by decide) mw_106 rfl dX7_one_66 ?_
        refine lv_iload_n hx hb dX7_one_69 rfl (lv_at hl 2 rfl) ?_
        obtain ⟨v101, q102, hf⟩ := ob hf
        refine aldC X hw kdv_193 q102 dX7_one_70 ?_
        replace hf := Option.some.inj hf
        subst hf
        exact eI X hw hr hlk dX7_one_71
      · replace hf := (if_neg c100).symm.trans hf
        by_cases c103 : x2 = 2
        · replace hf := (if_pos c103).symm.trans hf
          refine lv_tableIn (tgt := 72) (off := 53) hx hb dX7_one_19 (by rw [c103]; decide) (by rw [c103]; decide) (by rw [c103]; rfl) (by decide) ?_
          refine lv_aload_n hx hb dX7_one_72 rfl (lv_at hl 0 rfl) ?_
          refine gt_X1 X hw 0 kk_9 rfl (by decide) mw_181 rfl dX7_one_73 ?_
          refine lv_iload_n hx hb dX7_one_76 rfl (lv_at hl 2 rfl) ?_
          obtain ⟨v104, q105, hf⟩ := ob hf
          refine aldC X hw kdv_10 q105 dX7_one_77 ?_
          replace hf := Option.some.inj hf
          subst hf
          exact eI X hw hr hlk dX7_one_78
        · replace hf := (if_neg c103).symm.trans hf
          by_cases c106 : x2 = 3
          · replace hf := (if_pos c106).symm.trans hf
            refine lv_tableIn (tgt := 79) (off := 60) hx hb dX7_one_19 (by rw [c106]; decide) (by rw [c106]; decide) (by rw [c106]; rfl) (by decide) ?_
            refine lv_aload_n hx hb dX7_one_79 rfl (lv_at hl 0 rfl) ?_
            refine gt_X1 X hw 1 kk_9 rfl (by decide) mw_183 rfl dX7_one_80 ?_
            refine lv_iload_n hx hb dX7_one_83 rfl (lv_at hl 2 rfl) ?_
            obtain ⟨v107, q108, hf⟩ := ob hf
            refine aldC X hw kdv_11 q108 dX7_one_84 ?_
            replace hf := Option.some.inj hf
            subst hf
            exact eI X hw hr hlk dX7_one_85
          · replace hf := (if_neg c106).symm.trans hf
            by_cases c109 : x2 = 4
            · replace hf := (if_pos c109).symm.trans hf
              refine lv_tableIn (tgt := 86) (off := 67) hx hb dX7_one_19 (by rw [c109]; decide) (by rw [c109]; decide) (by rw [c109]; rfl) (by decide) ?_
              refine lv_aload_n hx hb dX7_one_86 rfl (lv_at hl 0 rfl) ?_
              refine lv_iload_n hx hb dX7_one_87 rfl (lv_at hl 2 rfl) ?_
              refine lv_aload_n hx hb dX7_one_88 rfl (lv_at hl 1 rfl) ?_
              refine gt_X7 X hw 7 kk_0 rfl (by decide) mw_285 rfl dX7_one_89 ?_
              refine gt_X6 X hw 0 kk_191 rfl (by decide) mw_104 rfl dX7_one_92 ?_
              refine lv_iload_n hx hb dX7_one_95 rfl (lv_at hl 2 rfl) ?_
              obtain ⟨v110, q111, hf⟩ := ob hf
              refine aldC X hw kdv_192 q111 dX7_one_96 ?_
              obtain ⟨u112, q113, hf⟩ := ob hf
              refine cVi (As := [.int x1, .int v110]) X hw (ctX1_layersOf l E b kk_9 q113) ⟨mw_408, mw_409, mw_410, mw_57, mw_411⟩ hd_X1_layersOf ⟨Nat.le_of_ble_eq_true rfl, Nat.le_of_ble_eq_true rfl, rfl, rfl⟩ (kdk kk_9 (by decide)) (ce_X1 E _ _ _ _ kk_9) (show vwCl[1]? = some (RX1, TX1, 6) from rfl) rfl hl.1 rfl (Nat.le_of_ble_eq_true rfl) dX7_one_97 (fun H locs hw => ?_)
              replace hf := Option.some.inj hf
              subst hf
              exact eI X hw hr hlk dX7_one_100
            · replace hf := (if_neg c109).symm.trans hf
              have nc97 : x2.toInt ≠ 0 := fun q => c97 (Int32.toInt_inj.mp (q.trans (by decide)))
              have nc100 : x2.toInt ≠ 1 := fun q => c100 (Int32.toInt_inj.mp (q.trans (by decide)))
              have nc103 : x2.toInt ≠ 2 := fun q => c103 (Int32.toInt_inj.mp (q.trans (by decide)))
              have nc106 : x2.toInt ≠ 3 := fun q => c106 (Int32.toInt_inj.mp (q.trans (by decide)))
              have nc109 : x2.toInt ≠ 4 := fun q => c109 (Int32.toInt_inj.mp (q.trans (by decide)))
              refine lv_tableOut (tgt := 101) hx hb dX7_one_19 (by omega) (by decide) ?_
              refine lv_iconst (v := (-1)) hx hb dX7_one_101 (by decide) ?_
              replace hf := Option.some.inj hf
              subst hf
              exact eI X hw hr hlk dX7_one_102
  · replace hf := (if_pos c96).symm.trans hf
    refine lv_iconst (v := (-1)) hx hb dX7_one_8 (by decide) ?_
    replace hf := Option.some.inj hf
    subst hf
    exact eI X hw hr hlk dX7_one_9

abbrev rmX7_week : Room := { frames := 2, cells := 0, slots := 0, locals := 43 }
theorem hd_X7_week : Hd yX7_week RX7 2 := by decide +kernel
def gX7_week_52   (y0 : Int32) (M : Mem) : Option (Int32) := some (y0)
def gX7_week (x1 : Int32) (x2 : Int32) (M : Mem) : Option (Int32) := (gX7_isOne x1 M).bind fun u114 => if u114 = 0 then (some ((-1))) else ((gX7_within x2 0 6).bind fun u117 => if u117 = 0 then (some ((-1))) else ((ldA 5 (M 193) x1).bind fun v120 => if v120 ≤ x2 then (gX7_week_52 ((-9)) M) else ((ldA 35 (M 194) ((x1 * 7) + x2)).bind fun v123 => gX7_week_52 v123 M)))
set_option maxHeartbeats 4000000 in
set_option maxRecDepth 100000 in
theorem tX7_week_52 {p : Program} {l : Launch} {e : Env} {s : State} {m : MethodId} {args : Array Value} {below : List Frame} {meth : Method} {c : Code} {E : EE} {b : Nat} {TC : Int64} {MM : Mem} {TM : Int64} {res : Int32} (X : CX E p s m args c cX7_week 3 RX7) (hr : meth.sig.returnType = (some .int)) (hlk : meth.locks = false)    : ∀ (y0 : Int32) (M : Mem), gX7_week_52 y0 M = some res → ∀ (H : Heap) (locs : List Loc) (ls : Array Slot), WW E b M TC MM TM s H locs → lv_has ls 3 [] → W p l e rmX7_week s m args below meth c H locs 0 0 (MQ below (va_Qi (fun x (_ : Unit) => x = res) (fun _ t => PW E b M TC MM TM t) (AA b)) args s 0 0 (AA b)) (F0 m 52 ls [.int y0]) := by
  have hx := X.1
  have hb := X.2.1
  intro y0 M hf H locs ls hw hl
  rw [gX7_week_52] at hf
  replace hf := Option.some.inj hf
  subst hf
  exact eI X hw hr hlk dX7_week_52
set_option maxHeartbeats 4000000 in
set_option maxRecDepth 100000 in
theorem ctX7_week (l : Launch) (E : EE) (b : Nat) {TC : Int64} {MM : Mem} {TM : Int64} {x1 : Int32} {x2 : Int32} {M : Mem} {res : Int32}  (hf : gX7_week x1 x2 M = some res) : MetI l E b yX7_week (.code yX7_week cX7_week 3 (some .int)) rmX7_week [.ref (b + 0), .int x1, .int x2] M TC MM TM res M TC MM TM := by
  refine Met.ofW (cc := cX7_week) (maxL := 3) (ret := (some .int)) (by decide) rfl ?_
  intro p e s m args below meth c s₁ B hml hv
  obtain ⟨rfl, hP, hK⟩ := hv
  have hx := B.exec
  have hb := B.bytes
  have X : CX E p s m _ c cX7_week 3 RX7 := ⟨hx, hb, hml, findClass_of_methodNamed B.named, fun w h => atoms_spec (ws := _ :: wt) B.pre w (List.mem_cons_of_mem _ h), hK⟩
  have hr := B.returns
  have hlk := B.notSynchronized
  have hw : WW E b M TC MM TM s s.heap [] := ⟨hP, va_S.rf⟩
  have hl := lv_entry ([.ref (b + 0), .int x1, .int x2]) (n := 3) (Nat.le_of_ble_eq_true rfl)
  rw [lg_entry_eq]
  generalize (lg_sl ([.ref (b + 0), .int x1, .int x2]) ++ List.replicate (3 - (lg_sl ([.ref (b + 0), .int x1, .int x2])).length) Slot.unset).toArray = ls at hl ⊢
  have hl : lv_has ls 3 [(0, .ref (b + 0)), (1, .int x1), (2, .int x2)] := hl
  obtain ⟨H, hH⟩ : ∃ H, H = s.heap := ⟨_, rfl⟩
  obtain ⟨locs, hL⟩ : ∃ L : List Loc, L = [] := ⟨_, rfl⟩
  rw [← hH, ← hL] at hw
  suffices hg : W p l e rmX7_week s m _ below meth c H locs 0 0 (MQ below (va_Qi (fun x (_ : Unit) => x = res) (fun _ t => PW E b M TC MM TM t) (AA b)) _ s 0 0 (AA b)) (F0 m 0 ls []) by rw [hH, hL] at hg; exact hg
  clear hH hL
  rw [gX7_week] at hf
  refine lv_aload_n hx hb dX7_week_0 rfl (lv_at hl 0 rfl) ?_
  refine lv_iload_n hx hb dX7_week_1 rfl (lv_at hl 1 rfl) ?_
  obtain ⟨u114, q115, hf⟩ := ob hf
  refine cVi (As := [.int x1]) X hw (ctX7_isOne l E b  q115) ⟨mw_404, mw_406, mw_9, mw_52, mw_407⟩ hd_X7_isOne ⟨Nat.le_of_ble_eq_true rfl, Nat.le_of_ble_eq_true rfl, rfl, rfl⟩ (kdk kk_0 (by decide)) (ce_X7 E _ _ _ _ kk_0) (show vwCl[7]? = some (RX7, TX7, 11) from rfl) rfl hl.1 rfl (Nat.le_of_ble_eq_true rfl) dX7_week_2 (fun H locs hw => ?_)
  refine lv_if_eq (tgt := 18) hx hb dX7_week_5 (by decide) (fun c116 => ?_) (fun c116 => ?_)
  · replace hf := (if_pos c116).symm.trans hf
    refine lv_iconst (v := (-1)) hx hb dX7_week_18 (by decide) ?_
    replace hf := Option.some.inj hf
    subst hf
    exact eI X hw hr hlk dX7_week_19
  · replace hf := (if_neg c116).symm.trans hf
    refine lv_iload_n hx hb dX7_week_8 rfl (lv_at hl 2 rfl) ?_
    refine lv_iconst (v := 0) hx hb dX7_week_9 (by decide) ?_
    refine lv_bipush (v := 6) hx hb dX7_week_10 (by decide) ?_
    obtain ⟨u117, q118, hf⟩ := ob hf
    refine cSi (As := [.int x2, .int 0, .int 6]) X hw (ctX7_within l E b  q118) ⟨mw_316, mw_317, mw_52, mw_318⟩ hd_X7_within ⟨Nat.le_of_ble_eq_true rfl, Nat.le_of_ble_eq_true rfl, rfl, rfl⟩ rfl hl.1 rfl (Nat.le_of_ble_eq_true rfl) dX7_week_12 (fun H locs hw => ?_)
    refine lv_if_ne (tgt := 20) hx hb dX7_week_15 (by decide) (fun c119 => ?_) (fun c119 => ?_)
    · replace hf := (if_neg c119).symm.trans hf
      refine lv_iload_n hx hb dX7_week_20 rfl (lv_at hl 2 rfl) ?_
      refine lv_aload_n hx hb dX7_week_21 rfl (lv_at hl 0 rfl) ?_
      refine gt_X7 X hw 7 kk_0 rfl (by decide) mw_285 rfl dX7_week_22 ?_
      refine gt_X6 X hw 1 kk_191 rfl (by decide) mw_106 rfl dX7_week_25 ?_
      refine lv_iload_n hx hb dX7_week_28 rfl (lv_at hl 1 rfl) ?_
      obtain ⟨v120, q121, hf⟩ := ob hf
      refine aldC X hw kdv_193 q121 dX7_week_29 ?_
      refine lv_icmp_ge (tgt := 50) hx hb dX7_week_30 (by decide) (fun c122 => ?_) (fun c122 => ?_)
      · replace hf := (if_pos c122).symm.trans hf
        refine lv_bipush (v := (-9)) hx hb dX7_week_50 (by decide) ?_
        exact tX7_week_52 X hr hlk ((-9)) M hf H locs ls hw (lv_sub hl [] rfl)
      · replace hf := (if_neg c122).symm.trans hf
        refine lv_aload_n hx hb dX7_week_33 rfl (lv_at hl 0 rfl) ?_
        refine gt_X7 X hw 7 kk_0 rfl (by decide) mw_285 rfl dX7_week_34 ?_
        refine gt_X6 X hw 2 kk_191 rfl (by decide) mw_110 rfl dX7_week_37 ?_
        refine lv_iload_n hx hb dX7_week_40 rfl (lv_at hl 1 rfl) ?_
        refine lv_bipush (v := 7) hx hb dX7_week_41 (by decide) ?_
        refine lv_imul hx hb dX7_week_43 ?_
        refine lv_iload_n hx hb dX7_week_44 rfl (lv_at hl 2 rfl) ?_
        refine lv_iadd hx hb dX7_week_45 ?_
        obtain ⟨v123, q124, hf⟩ := ob hf
        refine aldC X hw kdv_194 q124 dX7_week_46 ?_
        refine lv_goto (tgt := 52) hx hb dX7_week_47 (by decide) ?_
        exact tX7_week_52 X hr hlk v123 M hf H locs ls hw (lv_sub hl [] rfl)
    · replace hf := (if_pos c119).symm.trans hf
      refine lv_iconst (v := (-1)) hx hb dX7_week_18 (by decide) ?_
      replace hf := Option.some.inj hf
      subst hf
      exact eI X hw hr hlk dX7_week_19

abbrev rmX7_layer : Room := { frames := 2, cells := 0, slots := 0, locals := 43 }
theorem hd_X7_layer : Hd yX7_layer RX7 2 := by decide +kernel
def gX7_layer_53   (y0 : Int32) (M : Mem) : Option (Int32) := some (y0)
def gX7_layer (x1 : Int32) (x2 : Int32) (M : Mem) : Option (Int32) := (gX7_isOne x1 M).bind fun u125 => if u125 = 0 then (some ((-1))) else ((gX7_within x2 0 11).bind fun u128 => if u128 = 0 then (some ((-1))) else ((ldA 5 (M 10) x1).bind fun v131 => if v131 ≤ x2 then (gX7_layer_53 ((-9)) M) else ((gX1_layerAt 9 x1 x2 M).bind fun u134 => gX7_layer_53 u134 M)))
set_option maxHeartbeats 4000000 in
set_option maxRecDepth 100000 in
theorem tX7_layer_53 {p : Program} {l : Launch} {e : Env} {s : State} {m : MethodId} {args : Array Value} {below : List Frame} {meth : Method} {c : Code} {E : EE} {b : Nat} {TC : Int64} {MM : Mem} {TM : Int64} {res : Int32} (X : CX E p s m args c cX7_layer 3 RX7) (hr : meth.sig.returnType = (some .int)) (hlk : meth.locks = false)    : ∀ (y0 : Int32) (M : Mem), gX7_layer_53 y0 M = some res → ∀ (H : Heap) (locs : List Loc) (ls : Array Slot), WW E b M TC MM TM s H locs → lv_has ls 3 [] → W p l e rmX7_layer s m args below meth c H locs 0 0 (MQ below (va_Qi (fun x (_ : Unit) => x = res) (fun _ t => PW E b M TC MM TM t) (AA b)) args s 0 0 (AA b)) (F0 m 53 ls [.int y0]) := by
  have hx := X.1
  have hb := X.2.1
  intro y0 M hf H locs ls hw hl
  rw [gX7_layer_53] at hf
  replace hf := Option.some.inj hf
  subst hf
  exact eI X hw hr hlk dX7_layer_53
set_option maxHeartbeats 4000000 in
set_option maxRecDepth 100000 in
theorem ctX7_layer (l : Launch) (E : EE) (b : Nat) {TC : Int64} {MM : Mem} {TM : Int64} {x1 : Int32} {x2 : Int32} {M : Mem} {res : Int32}  (hf : gX7_layer x1 x2 M = some res) : MetI l E b yX7_layer (.code yX7_layer cX7_layer 3 (some .int)) rmX7_layer [.ref (b + 0), .int x1, .int x2] M TC MM TM res M TC MM TM := by
  refine Met.ofW (cc := cX7_layer) (maxL := 3) (ret := (some .int)) (by decide) rfl ?_
  intro p e s m args below meth c s₁ B hml hv
  obtain ⟨rfl, hP, hK⟩ := hv
  have hx := B.exec
  have hb := B.bytes
  have X : CX E p s m _ c cX7_layer 3 RX7 := ⟨hx, hb, hml, findClass_of_methodNamed B.named, fun w h => atoms_spec (ws := _ :: wt) B.pre w (List.mem_cons_of_mem _ h), hK⟩
  have hr := B.returns
  have hlk := B.notSynchronized
  have hw : WW E b M TC MM TM s s.heap [] := ⟨hP, va_S.rf⟩
  have hl := lv_entry ([.ref (b + 0), .int x1, .int x2]) (n := 3) (Nat.le_of_ble_eq_true rfl)
  rw [lg_entry_eq]
  generalize (lg_sl ([.ref (b + 0), .int x1, .int x2]) ++ List.replicate (3 - (lg_sl ([.ref (b + 0), .int x1, .int x2])).length) Slot.unset).toArray = ls at hl ⊢
  have hl : lv_has ls 3 [(0, .ref (b + 0)), (1, .int x1), (2, .int x2)] := hl
  obtain ⟨H, hH⟩ : ∃ H, H = s.heap := ⟨_, rfl⟩
  obtain ⟨locs, hL⟩ : ∃ L : List Loc, L = [] := ⟨_, rfl⟩
  rw [← hH, ← hL] at hw
  suffices hg : W p l e rmX7_layer s m _ below meth c H locs 0 0 (MQ below (va_Qi (fun x (_ : Unit) => x = res) (fun _ t => PW E b M TC MM TM t) (AA b)) _ s 0 0 (AA b)) (F0 m 0 ls []) by rw [hH, hL] at hg; exact hg
  clear hH hL
  rw [gX7_layer] at hf
  refine lv_aload_n hx hb dX7_layer_0 rfl (lv_at hl 0 rfl) ?_
  refine lv_iload_n hx hb dX7_layer_1 rfl (lv_at hl 1 rfl) ?_
  obtain ⟨u125, q126, hf⟩ := ob hf
  refine cVi (As := [.int x1]) X hw (ctX7_isOne l E b  q126) ⟨mw_404, mw_406, mw_9, mw_52, mw_407⟩ hd_X7_isOne ⟨Nat.le_of_ble_eq_true rfl, Nat.le_of_ble_eq_true rfl, rfl, rfl⟩ (kdk kk_0 (by decide)) (ce_X7 E _ _ _ _ kk_0) (show vwCl[7]? = some (RX7, TX7, 11) from rfl) rfl hl.1 rfl (Nat.le_of_ble_eq_true rfl) dX7_layer_2 (fun H locs hw => ?_)
  refine lv_if_eq (tgt := 18) hx hb dX7_layer_5 (by decide) (fun c127 => ?_) (fun c127 => ?_)
  · replace hf := (if_pos c127).symm.trans hf
    refine lv_iconst (v := (-1)) hx hb dX7_layer_18 (by decide) ?_
    replace hf := Option.some.inj hf
    subst hf
    exact eI X hw hr hlk dX7_layer_19
  · replace hf := (if_neg c127).symm.trans hf
    refine lv_iload_n hx hb dX7_layer_8 rfl (lv_at hl 2 rfl) ?_
    refine lv_iconst (v := 0) hx hb dX7_layer_9 (by decide) ?_
    refine lv_bipush (v := 11) hx hb dX7_layer_10 (by decide) ?_
    obtain ⟨u128, q129, hf⟩ := ob hf
    refine cSi (As := [.int x2, .int 0, .int 11]) X hw (ctX7_within l E b  q129) ⟨mw_316, mw_317, mw_52, mw_318⟩ hd_X7_within ⟨Nat.le_of_ble_eq_true rfl, Nat.le_of_ble_eq_true rfl, rfl, rfl⟩ rfl hl.1 rfl (Nat.le_of_ble_eq_true rfl) dX7_layer_12 (fun H locs hw => ?_)
    refine lv_if_ne (tgt := 20) hx hb dX7_layer_15 (by decide) (fun c130 => ?_) (fun c130 => ?_)
    · replace hf := (if_neg c130).symm.trans hf
      refine lv_iload_n hx hb dX7_layer_20 rfl (lv_at hl 2 rfl) ?_
      refine lv_aload_n hx hb dX7_layer_21 rfl (lv_at hl 0 rfl) ?_
      refine gt_X7 X hw 2 kk_0 rfl (by decide) mw_280 rfl dX7_layer_22 ?_
      refine gt_X5 X hw 0 kk_8 rfl (by decide) mw_205 rfl dX7_layer_25 ?_
      refine gt_X1 X hw 0 kk_9 rfl (by decide) mw_181 rfl dX7_layer_28 ?_
      refine lv_iload_n hx hb dX7_layer_31 rfl (lv_at hl 1 rfl) ?_
      obtain ⟨v131, q132, hf⟩ := ob hf
      refine aldC X hw kdv_10 q132 dX7_layer_32 ?_
      refine lv_icmp_ge (tgt := 51) hx hb dX7_layer_33 (by decide) (fun c133 => ?_) (fun c133 => ?_)
      · replace hf := (if_pos c133).symm.trans hf
        refine lv_bipush (v := (-9)) hx hb dX7_layer_51 (by decide) ?_
        exact tX7_layer_53 X hr hlk ((-9)) M hf H locs ls hw (lv_sub hl [] rfl)
      · replace hf := (if_neg c133).symm.trans hf
        refine lv_aload_n hx hb dX7_layer_36 rfl (lv_at hl 0 rfl) ?_
        refine gt_X7 X hw 2 kk_0 rfl (by decide) mw_280 rfl dX7_layer_37 ?_
        refine gt_X5 X hw 0 kk_8 rfl (by decide) mw_205 rfl dX7_layer_40 ?_
        refine lv_iload_n hx hb dX7_layer_43 rfl (lv_at hl 1 rfl) ?_
        refine lv_iload_n hx hb dX7_layer_44 rfl (lv_at hl 2 rfl) ?_
        obtain ⟨u134, q135, hf⟩ := ob hf
        refine cVi (As := [.int x1, .int x2]) X hw (ctX1_layerAt l E b kk_9 q135) ⟨mw_424, mw_413, mw_414, mw_57, mw_415⟩ hd_X1_layerAt ⟨Nat.le_of_ble_eq_true rfl, Nat.le_of_ble_eq_true rfl, rfl, rfl⟩ (kdk kk_9 (by decide)) (ce_X1 E _ _ _ _ kk_9) (show vwCl[1]? = some (RX1, TX1, 6) from rfl) rfl hl.1 rfl (Nat.le_of_ble_eq_true rfl) dX7_layer_45 (fun H locs hw => ?_)
        refine lv_goto (tgt := 53) hx hb dX7_layer_48 (by decide) ?_
        exact tX7_layer_53 X hr hlk u134 M hf H locs ls hw (lv_sub hl [] rfl)
    · replace hf := (if_pos c130).symm.trans hf
      refine lv_iconst (v := (-1)) hx hb dX7_layer_18 (by decide) ?_
      replace hf := Option.some.inj hf
      subst hf
      exact eI X hw hr hlk dX7_layer_19

abbrev rmX7_isJar : Room := { frames := 1, cells := 0, slots := 0, locals := 22 }
theorem hd_X7_isJar : Hd yX7_isJar RX7 1 := by decide +kernel
def gX7_isJar (x0 : Int32) : Option (Int32) := (gX7_within x0 0 3).bind fun u136 => (zr u136).bind fun v138 => some (v138)
set_option maxHeartbeats 4000000 in
set_option maxRecDepth 100000 in
theorem ctX7_isJar (l : Launch) (E : EE) (b : Nat) {MC : Mem} {TC : Int64} {MM : Mem} {TM : Int64} {x0 : Int32} {res : Int32}  (hf : gX7_isJar x0 = some res) : MetI l E b yX7_isJar (.code yX7_isJar cX7_isJar 1 (some .boolean)) rmX7_isJar [.int x0] MC TC MM TM res MC TC MM TM := by
  refine Met.ofW (cc := cX7_isJar) (maxL := 1) (ret := (some .boolean)) (by decide) rfl ?_
  intro p e s m args below meth c s₁ B hml hv
  obtain ⟨rfl, hP, hK⟩ := hv
  have hx := B.exec
  have hb := B.bytes
  have X : CX E p s m _ c cX7_isJar 1 RX7 := ⟨hx, hb, hml, findClass_of_methodNamed B.named, fun w h => atoms_spec (ws := _ :: wt) B.pre w (List.mem_cons_of_mem _ h), hK⟩
  have hr := B.returns
  have hlk := B.notSynchronized
  have hw : WW E b MC TC MM TM s s.heap [] := ⟨hP, va_S.rf⟩
  have hl := lv_entry ([.int x0]) (n := 1) (Nat.le_of_ble_eq_true rfl)
  rw [lg_entry_eq]
  generalize (lg_sl ([.int x0]) ++ List.replicate (1 - (lg_sl ([.int x0])).length) Slot.unset).toArray = ls at hl ⊢
  have hl : lv_has ls 1 [(0, .int x0)] := hl
  obtain ⟨H, hH⟩ : ∃ H, H = s.heap := ⟨_, rfl⟩
  obtain ⟨locs, hL⟩ : ∃ L : List Loc, L = [] := ⟨_, rfl⟩
  rw [← hH, ← hL] at hw
  suffices hg : W p l e rmX7_isJar s m _ below meth c H locs 0 0 (MQ below (va_Qi (fun x (_ : Unit) => x = res) (fun _ t => PW E b MC TC MM TM t) (AA b)) _ s 0 0 (AA b)) (F0 m 0 ls []) by rw [hH, hL] at hg; exact hg
  clear hH hL
  rw [gX7_isJar] at hf
  refine lv_iload_n hx hb dX7_isJar_0 rfl (lv_at hl 0 rfl) ?_
  refine lv_iconst (v := 0) hx hb dX7_isJar_1 (by decide) ?_
  refine lv_iconst (v := 3) hx hb dX7_isJar_2 (by decide) ?_
  obtain ⟨u136, q137, hf⟩ := ob hf
  refine cSi (As := [.int x0, .int 0, .int 3]) X hw (ctX7_within l E b  q137) ⟨mw_316, mw_317, mw_52, mw_318⟩ hd_X7_within ⟨Nat.le_of_ble_eq_true rfl, Nat.le_of_ble_eq_true rfl, rfl, rfl⟩ rfl hl.1 rfl (Nat.le_of_ble_eq_true rfl) dX7_isJar_3 (fun H locs hw => ?_)
  obtain ⟨v138, q139, hf⟩ := ob hf
  obtain ⟨eq139, q139⟩ := zr_s q139
  rw [eq139]
  replace hf := Option.some.inj hf
  subst hf
  exact eZ X hw q139 hr hlk dX7_isJar_6

abbrev rmX7_isThought : Room := { frames := 1, cells := 0, slots := 0, locals := 22 }
theorem hd_X7_isThought : Hd yX7_isThought RX7 1 := by decide +kernel
def gX7_isThought (x0 : Int32) : Option (Int32) := (gX7_within x0 0 9).bind fun u140 => (zr u140).bind fun v142 => some (v142)
set_option maxHeartbeats 4000000 in
set_option maxRecDepth 100000 in
theorem ctX7_isThought (l : Launch) (E : EE) (b : Nat) {MC : Mem} {TC : Int64} {MM : Mem} {TM : Int64} {x0 : Int32} {res : Int32}  (hf : gX7_isThought x0 = some res) : MetI l E b yX7_isThought (.code yX7_isThought cX7_isThought 1 (some .boolean)) rmX7_isThought [.int x0] MC TC MM TM res MC TC MM TM := by
  refine Met.ofW (cc := cX7_isThought) (maxL := 1) (ret := (some .boolean)) (by decide) rfl ?_
  intro p e s m args below meth c s₁ B hml hv
  obtain ⟨rfl, hP, hK⟩ := hv
  have hx := B.exec
  have hb := B.bytes
  have X : CX E p s m _ c cX7_isThought 1 RX7 := ⟨hx, hb, hml, findClass_of_methodNamed B.named, fun w h => atoms_spec (ws := _ :: wt) B.pre w (List.mem_cons_of_mem _ h), hK⟩
  have hr := B.returns
  have hlk := B.notSynchronized
  have hw : WW E b MC TC MM TM s s.heap [] := ⟨hP, va_S.rf⟩
  have hl := lv_entry ([.int x0]) (n := 1) (Nat.le_of_ble_eq_true rfl)
  rw [lg_entry_eq]
  generalize (lg_sl ([.int x0]) ++ List.replicate (1 - (lg_sl ([.int x0])).length) Slot.unset).toArray = ls at hl ⊢
  have hl : lv_has ls 1 [(0, .int x0)] := hl
  obtain ⟨H, hH⟩ : ∃ H, H = s.heap := ⟨_, rfl⟩
  obtain ⟨locs, hL⟩ : ∃ L : List Loc, L = [] := ⟨_, rfl⟩
  rw [← hH, ← hL] at hw
  suffices hg : W p l e rmX7_isThought s m _ below meth c H locs 0 0 (MQ below (va_Qi (fun x (_ : Unit) => x = res) (fun _ t => PW E b MC TC MM TM t) (AA b)) _ s 0 0 (AA b)) (F0 m 0 ls []) by rw [hH, hL] at hg; exact hg
  clear hH hL
  rw [gX7_isThought] at hf
  refine lv_iload_n hx hb dX7_isThought_0 rfl (lv_at hl 0 rfl) ?_
  refine lv_iconst (v := 0) hx hb dX7_isThought_1 (by decide) ?_
  refine lv_bipush (v := 9) hx hb dX7_isThought_2 (by decide) ?_
  obtain ⟨u140, q141, hf⟩ := ob hf
  refine cSi (As := [.int x0, .int 0, .int 9]) X hw (ctX7_within l E b  q141) ⟨mw_316, mw_317, mw_52, mw_318⟩ hd_X7_within ⟨Nat.le_of_ble_eq_true rfl, Nat.le_of_ble_eq_true rfl, rfl, rfl⟩ rfl hl.1 rfl (Nat.le_of_ble_eq_true rfl) dX7_isThought_4 (fun H locs hw => ?_)
  obtain ⟨v142, q143, hf⟩ := ob hf
  obtain ⟨eq143, q143⟩ := zr_s q143
  rw [eq143]
  replace hf := Option.some.inj hf
  subst hf
  exact eZ X hw q143 hr hlk dX7_isThought_7

abbrev rmX7_jar : Room := { frames := 2, cells := 0, slots := 0, locals := 42 }
theorem hd_X7_jar : Hd yX7_jar RX7 2 := by decide +kernel
def gX7_jar (x1 : Int32) (x2 : Int32) (M : Mem) : Option (Int32) := (gX7_isJar x1).bind fun u144 => if u144 = 0 then (some ((-1))) else ((gX7_isThought x2).bind fun u147 => if u147 = 0 then (some ((-1))) else ((gX1_sweptOf 9 x1 x2 M).bind fun u150 => some (u150)))
set_option maxHeartbeats 4000000 in
set_option maxRecDepth 100000 in
theorem ctX7_jar (l : Launch) (E : EE) (b : Nat) {TC : Int64} {MM : Mem} {TM : Int64} {x1 : Int32} {x2 : Int32} {M : Mem} {res : Int32}  (hf : gX7_jar x1 x2 M = some res) : MetI l E b yX7_jar (.code yX7_jar cX7_jar 3 (some .int)) rmX7_jar [.ref (b + 0), .int x1, .int x2] M TC MM TM res M TC MM TM := by
  refine Met.ofW (cc := cX7_jar) (maxL := 3) (ret := (some .int)) (by decide) rfl ?_
  intro p e s m args below meth c s₁ B hml hv
  obtain ⟨rfl, hP, hK⟩ := hv
  have hx := B.exec
  have hb := B.bytes
  have X : CX E p s m _ c cX7_jar 3 RX7 := ⟨hx, hb, hml, findClass_of_methodNamed B.named, fun w h => atoms_spec (ws := _ :: wt) B.pre w (List.mem_cons_of_mem _ h), hK⟩
  have hr := B.returns
  have hlk := B.notSynchronized
  have hw : WW E b M TC MM TM s s.heap [] := ⟨hP, va_S.rf⟩
  have hl := lv_entry ([.ref (b + 0), .int x1, .int x2]) (n := 3) (Nat.le_of_ble_eq_true rfl)
  rw [lg_entry_eq]
  generalize (lg_sl ([.ref (b + 0), .int x1, .int x2]) ++ List.replicate (3 - (lg_sl ([.ref (b + 0), .int x1, .int x2])).length) Slot.unset).toArray = ls at hl ⊢
  have hl : lv_has ls 3 [(0, .ref (b + 0)), (1, .int x1), (2, .int x2)] := hl
  obtain ⟨H, hH⟩ : ∃ H, H = s.heap := ⟨_, rfl⟩
  obtain ⟨locs, hL⟩ : ∃ L : List Loc, L = [] := ⟨_, rfl⟩
  rw [← hH, ← hL] at hw
  suffices hg : W p l e rmX7_jar s m _ below meth c H locs 0 0 (MQ below (va_Qi (fun x (_ : Unit) => x = res) (fun _ t => PW E b M TC MM TM t) (AA b)) _ s 0 0 (AA b)) (F0 m 0 ls []) by rw [hH, hL] at hg; exact hg
  clear hH hL
  rw [gX7_jar] at hf
  refine lv_iload_n hx hb dX7_jar_0 rfl (lv_at hl 1 rfl) ?_
  obtain ⟨u144, q145, hf⟩ := ob hf
  refine cSi (As := [.int x1]) X hw (ctX7_isJar l E b  q145) ⟨mw_429, mw_430, mw_52, mw_431⟩ hd_X7_isJar ⟨Nat.le_of_ble_eq_true rfl, Nat.le_of_ble_eq_true rfl, rfl, rfl⟩ rfl hl.1 rfl (Nat.le_of_ble_eq_true rfl) dX7_jar_1 (fun H locs hw => ?_)
  refine lv_if_eq (tgt := 14) hx hb dX7_jar_4 (by decide) (fun c146 => ?_) (fun c146 => ?_)
  · replace hf := (if_pos c146).symm.trans hf
    refine lv_iconst (v := (-1)) hx hb dX7_jar_14 (by decide) ?_
    replace hf := Option.some.inj hf
    subst hf
    exact eI X hw hr hlk dX7_jar_15
  · replace hf := (if_neg c146).symm.trans hf
    refine lv_iload_n hx hb dX7_jar_7 rfl (lv_at hl 2 rfl) ?_
    obtain ⟨u147, q148, hf⟩ := ob hf
    refine cSi (As := [.int x2]) X hw (ctX7_isThought l E b  q148) ⟨mw_432, mw_433, mw_52, mw_434⟩ hd_X7_isThought ⟨Nat.le_of_ble_eq_true rfl, Nat.le_of_ble_eq_true rfl, rfl, rfl⟩ rfl hl.1 rfl (Nat.le_of_ble_eq_true rfl) dX7_jar_8 (fun H locs hw => ?_)
    refine lv_if_ne (tgt := 16) hx hb dX7_jar_11 (by decide) (fun c149 => ?_) (fun c149 => ?_)
    · replace hf := (if_neg c149).symm.trans hf
      refine lv_aload_n hx hb dX7_jar_16 rfl (lv_at hl 0 rfl) ?_
      refine gt_X7 X hw 2 kk_0 rfl (by decide) mw_280 rfl dX7_jar_17 ?_
      refine gt_X5 X hw 0 kk_8 rfl (by decide) mw_205 rfl dX7_jar_20 ?_
      refine lv_iload_n hx hb dX7_jar_23 rfl (lv_at hl 1 rfl) ?_
      refine lv_iload_n hx hb dX7_jar_24 rfl (lv_at hl 2 rfl) ?_
      obtain ⟨u150, q151, hf⟩ := ob hf
      refine cVi (As := [.int x1, .int x2]) X hw (ctX1_sweptOf l E b kk_9 q151) ⟨mw_435, mw_436, mw_437, mw_57, mw_438⟩ hd_X1_sweptOf ⟨Nat.le_of_ble_eq_true rfl, Nat.le_of_ble_eq_true rfl, rfl, rfl⟩ (kdk kk_9 (by decide)) (ce_X1 E _ _ _ _ kk_9) (show vwCl[1]? = some (RX1, TX1, 6) from rfl) rfl hl.1 rfl (Nat.le_of_ble_eq_true rfl) dX7_jar_25 (fun H locs hw => ?_)
      replace hf := Option.some.inj hf
      subst hf
      exact eI X hw hr hlk dX7_jar_28
    · replace hf := (if_pos c149).symm.trans hf
      refine lv_iconst (v := (-1)) hx hb dX7_jar_14 (by decide) ?_
      replace hf := Option.some.inj hf
      subst hf
      exact eI X hw hr hlk dX7_jar_15

abbrev rmX7_days : Room := { frames := 3, cells := 0, slots := 0, locals := 101 }
theorem hd_X7_days : Hd yX7_days RX7 1 := by decide +kernel
def gX7_days_42   : Nat → Int32 → Int32 → Mem → Option (Int32 × Mem)
  | 0, _, _, _ => none
  | n + 1, x1, x2, M => if x1 ≤ x2 then (some (M 9 4, M)) else ((gX1_passDay 9 191 M).bind fun u159 => (some (x2 + 1)).bind fun z161 => (gX7_days_42 n) x1 z161 u159)
def gX7_days (x1 : Int32) (M : Mem) : Option (Int32 × Mem) := (gX7_within x1 1 9).bind fun u152 => if u152 = 0 then (some ((-1), M)) else (if ((M 9 4) + x1) ≤ 999 then ((gX5_remember 8 M).bind fun u156 => gX7_days_42 FU x1 0 u156) else (some ((-2), M)))
set_option maxHeartbeats 4000000 in
set_option maxRecDepth 100000 in
theorem tX7_days_42 {p : Program} {l : Launch} {e : Env} {s : State} {m : MethodId} {args : Array Value} {below : List Frame} {meth : Method} {c : Code} {E : EE} {b : Nat} {TC : Int64} {MM : Mem} {TM : Int64} {res : Int32 × Mem} (X : CX E p s m args c cX7_days 3 RX7) (hr : meth.sig.returnType = (some .int)) (hlk : meth.locks = false)    : ∀ (n : Nat) (x1 : Int32) (x2 : Int32) (M : Mem), gX7_days_42 n x1 x2 M = some res → ∀ (H : Heap) (locs : List Loc) (ls : Array Slot), WW E b M TC MM TM s H locs → lv_has ls 3 [(0, .ref (b + 0)), (1, .int x1), (2, .int x2)] → W p l e rmX7_days s m args below meth c H locs 0 0 (MQ below (va_Qi (fun x (_ : Unit) => x = res.1) (fun _ t => PW E b res.2 TC MM TM t) (AA b)) args s 0 0 (AA b)) (F0 m 42 ls []) := by
  have hx := X.1
  have hb := X.2.1
  intro n
  induction n with
  | zero =>
    intro x1 x2 M hf
    cases (show (none : Option (Int32 × Mem)) = some res from hf)
  | succ n ih =>
    intro x1 x2 M hf H locs ls hw hl
    rw [gX7_days_42] at hf
    refine lv_iload_n hx hb dX7_days_42 rfl (lv_at hl 2 rfl) ?_
    refine lv_iload_n hx hb dX7_days_43 rfl (lv_at hl 1 rfl) ?_
    refine lv_icmp_ge (tgt := 67) hx hb dX7_days_44 (by decide) (fun c158 => ?_) (fun c158 => ?_)
    · replace hf := (if_pos c158).symm.trans hf
      refine lv_aload_n hx hb dX7_days_67 rfl (lv_at hl 0 rfl) ?_
      refine gt_X7 X hw 2 kk_0 rfl (by decide) mw_280 rfl dX7_days_68 ?_
      refine gt_X5 X hw 0 kk_8 rfl (by decide) mw_205 rfl dX7_days_71 ?_
      refine gt_X1 X hw 4 kk_9 rfl (by decide) mw_187 rfl dX7_days_74 ?_
      replace hf := Option.some.inj hf
      subst hf
      exact eI X hw hr hlk dX7_days_77
    · replace hf := (if_neg c158).symm.trans hf
      refine lv_aload_n hx hb dX7_days_47 rfl (lv_at hl 0 rfl) ?_
      refine gt_X7 X hw 2 kk_0 rfl (by decide) mw_280 rfl dX7_days_48 ?_
      refine gt_X5 X hw 0 kk_8 rfl (by decide) mw_205 rfl dX7_days_51 ?_
      refine lv_aload_n hx hb dX7_days_54 rfl (lv_at hl 0 rfl) ?_
      refine gt_X7 X hw 7 kk_0 rfl (by decide) mw_285 rfl dX7_days_55 ?_
      obtain ⟨u159, q160, hf⟩ := ob hf
      refine cVv (As := [.ref (b + 191)]) X hw (ctX1_passDay l E b kk_9 kk_191 q160) ⟨mw_456, mw_457, mw_458, mw_57, mw_459⟩ hd_X1_passDay ⟨Nat.le_of_ble_eq_true rfl, Nat.le_of_ble_eq_true rfl, rfl, rfl⟩ (kdk kk_9 (by decide)) (ce_X1 E _ _ _ _ kk_9) (show vwCl[1]? = some (RX1, TX1, 6) from rfl) rfl hl.1 rfl (Nat.le_of_ble_eq_true rfl) dX7_days_58 (fun H locs hw => ?_)
      obtain ⟨z161, ez161⟩ : ∃ y : Int32, y = x2 + 1 := ⟨_, rfl⟩
      replace hf := nmb hf ez161
      refine lv_iinc (v := z161) (lv' := [(2, .int z161), (0, .ref (b + 0)), (1, .int x1)]) hx hb dX7_days_61 hl (k := 2) rfl (by rw [ez161]; rfl) (by decide) rfl (fun ls hl => ?_)
      refine lv_goto (tgt := 42) hx hb dX7_days_64 (by decide) ?_
      exact ih x1 z161 u159 hf H locs ls hw (lv_sub hl [1, 2, 0] rfl)
set_option maxHeartbeats 4000000 in
set_option maxRecDepth 100000 in
theorem ctX7_days (l : Launch) (E : EE) (b : Nat) {TC : Int64} {MM : Mem} {TM : Int64} {x1 : Int32} {M : Mem} {res : Int32 × Mem}  (hf : gX7_days x1 M = some res) : MetI l E b yX7_days (.code yX7_days cX7_days 3 (some .int)) rmX7_days [.ref (b + 0), .int x1] M TC MM TM res.1 res.2 TC MM TM := by
  refine Met.ofW (cc := cX7_days) (maxL := 3) (ret := (some .int)) (by decide) rfl ?_
  intro p e s m args below meth c s₁ B hml hv
  obtain ⟨rfl, hP, hK⟩ := hv
  have hx := B.exec
  have hb := B.bytes
  have X : CX E p s m _ c cX7_days 3 RX7 := ⟨hx, hb, hml, findClass_of_methodNamed B.named, fun w h => atoms_spec (ws := _ :: wt) B.pre w (List.mem_cons_of_mem _ h), hK⟩
  have hr := B.returns
  have hlk := B.notSynchronized
  have hw : WW E b M TC MM TM s s.heap [] := ⟨hP, va_S.rf⟩
  have hl := lv_entry ([.ref (b + 0), .int x1]) (n := 3) (Nat.le_of_ble_eq_true rfl)
  rw [lg_entry_eq]
  generalize (lg_sl ([.ref (b + 0), .int x1]) ++ List.replicate (3 - (lg_sl ([.ref (b + 0), .int x1])).length) Slot.unset).toArray = ls at hl ⊢
  have hl : lv_has ls 3 [(0, .ref (b + 0)), (1, .int x1)] := hl
  obtain ⟨H, hH⟩ : ∃ H, H = s.heap := ⟨_, rfl⟩
  obtain ⟨locs, hL⟩ : ∃ L : List Loc, L = [] := ⟨_, rfl⟩
  rw [← hH, ← hL] at hw
  suffices hg : W p l e rmX7_days s m _ below meth c H locs 0 0 (MQ below (va_Qi (fun x (_ : Unit) => x = res.1) (fun _ t => PW E b res.2 TC MM TM t) (AA b)) _ s 0 0 (AA b)) (F0 m 0 ls []) by rw [hH, hL] at hg; exact hg
  clear hH hL
  rw [gX7_days] at hf
  refine lv_iload_n hx hb dX7_days_0 rfl (lv_at hl 1 rfl) ?_
  refine lv_iconst (v := 1) hx hb dX7_days_1 (by decide) ?_
  refine lv_bipush (v := 9) hx hb dX7_days_2 (by decide) ?_
  obtain ⟨u152, q153, hf⟩ := ob hf
  refine cSi (As := [.int x1, .int 1, .int 9]) X hw (ctX7_within l E b  q153) ⟨mw_316, mw_317, mw_52, mw_318⟩ hd_X7_within ⟨Nat.le_of_ble_eq_true rfl, Nat.le_of_ble_eq_true rfl, rfl, rfl⟩ rfl hl.1 rfl (Nat.le_of_ble_eq_true rfl) dX7_days_4 (fun H locs hw => ?_)
  refine lv_if_ne (tgt := 12) hx hb dX7_days_7 (by decide) (fun c154 => ?_) (fun c154 => ?_)
  · replace hf := (if_neg c154).symm.trans hf
    refine lv_aload_n hx hb dX7_days_12 rfl (lv_at hl 0 rfl) ?_
    refine gt_X7 X hw 2 kk_0 rfl (by decide) mw_280 rfl dX7_days_13 ?_
    refine gt_X5 X hw 0 kk_8 rfl (by decide) mw_205 rfl dX7_days_16 ?_
    refine gt_X1 X hw 4 kk_9 rfl (by decide) mw_187 rfl dX7_days_19 ?_
    refine lv_iload_n hx hb dX7_days_22 rfl (lv_at hl 1 rfl) ?_
    refine lv_iadd hx hb dX7_days_23 ?_
    refine lv_sipush (v := 999) hx hb dX7_days_24 (by decide) ?_
    refine lv_icmp_le (tgt := 33) hx hb dX7_days_27 (by decide) (fun c155 => ?_) (fun c155 => ?_)
    · replace hf := (if_pos c155).symm.trans hf
      refine lv_aload_n hx hb dX7_days_33 rfl (lv_at hl 0 rfl) ?_
      refine gt_X7 X hw 2 kk_0 rfl (by decide) mw_280 rfl dX7_days_34 ?_
      obtain ⟨u156, q157, hf⟩ := ob hf
      refine cVv (As := []) X hw (ctX5_remember l E b kk_8 q157) ⟨mw_443, mw_444, mw_445, mw_56, mw_446⟩ hd_X5_remember ⟨Nat.le_of_ble_eq_true rfl, Nat.le_of_ble_eq_true rfl, rfl, rfl⟩ (kdk kk_8 (by decide)) (ce_X5 E _ _ _ _ kk_8) (show vwCl[5]? = some (RX5, TX5, 3) from rfl) rfl hl.1 rfl (Nat.le_of_ble_eq_true rfl) dX7_days_37 (fun H locs hw => ?_)
      refine lv_iconst (v := 0) hx hb dX7_days_40 (by decide) ?_
      refine lv_istore_n (lv' := [(2, .int 0), (0, .ref (b + 0)), (1, .int x1)]) hx hb dX7_days_41 rfl hl (by decide) rfl (fun ls hl => ?_)
      exact tX7_days_42 X hr hlk FU x1 0 u156 hf H locs ls hw (lv_sub hl [1, 2, 0] rfl)
    · replace hf := (if_neg c155).symm.trans hf
      refine lv_bipush (v := (-2)) hx hb dX7_days_30 (by decide) ?_
      replace hf := Option.some.inj hf
      subst hf
      exact eI X hw hr hlk dX7_days_32
  · replace hf := (if_pos c154).symm.trans hf
    refine lv_iconst (v := (-1)) hx hb dX7_days_10 (by decide) ?_
    replace hf := Option.some.inj hf
    subst hf
    exact eI X hw hr hlk dX7_days_11
