abbrev rmX3_countWhatIsLeft : Room := { frames := 1, cells := 0, slots := 0, locals := 23 }
theorem hd_X3_countWhatIsLeft : Hd yX3_countWhatIsLeft RX3 0 := by decide +kernel
def gX3_countWhatIsLeft_79  (k33 : Int32 → Mem → Option (Mem)) (x1 : Int32) (M : Mem) : Option (Mem) := (some (x1 + 1)).bind fun z15 => k33 z15 M
def gX3_countWhatIsLeft_33   : Nat → Int32 → Mem → Option (Mem)
  | 0, _, _ => none
  | n + 1, x1, M => if (M 185 6) ≤ x1 then (some (M)) else ((ldA 32 (M 188) x1).bind fun v8 => (ldA 10 (M 186) v8).bind fun v10 => (stA 10 M 186 v8 (v10 + 1)).bind fun M12 => if x1 < (M12 185 5) then (gX3_countWhatIsLeft_79 (gX3_countWhatIsLeft_33 n) x1 M12) else ((ldA 32 (M12 188) x1).bind fun v16 => (ldA 10 (M12 187) v16).bind fun v18 => (stA 10 M12 187 v16 (v18 + 1)).bind fun M20 => gX3_countWhatIsLeft_79 (gX3_countWhatIsLeft_33 n) x1 M20))
def gX3_countWhatIsLeft (M : Mem) : Option (Mem) := (gJ7_fill_53178 186 10 0 M).bind fun u1 => (gJ7_fill_53178 187 10 0 u1).bind fun u3 => (some (mn (u3 185 6) (u3 185 7))).bind fun z5 => (some ((u3 185 6) - z5)).bind fun z6 => gX3_countWhatIsLeft_33 FU z6 u3
set_option maxHeartbeats 4000000 in
set_option maxRecDepth 100000 in
theorem tX3_countWhatIsLeft_79 {p : Program} {l : Launch} {e : Env} {s : State} {m : MethodId} {args : Array Value} {below : List Frame} {meth : Method} {c : Code} {E : EE} {b : Nat} {TC : Int64} {MM : Mem} {TM : Int64} {res : Mem} (X : CX E p s m args c cX3_countWhatIsLeft 2 RX3) (hr : meth.sig.returnType = none) (hlk : meth.locks = false)   {k33 : Int32 → Mem → Option (Mem)} (hk33 : ∀ (x1 : Int32) (M : Mem), k33 x1 M = some res → ∀ (H : Heap) (locs : List Loc) (ls : Array Slot), WW E b M TC MM TM s H locs → lv_has ls 2 [(0, .ref (b + 185)), (1, .int x1)] → W p l e rmX3_countWhatIsLeft s m args below meth c H locs 0 0 (MQ below (va_Qv (fun (_ : Unit) => True) (fun _ t => PW E b res TC MM TM t) (AA b)) args s 0 0 (AA b)) (F0 m 33 ls [])) : ∀ (x1 : Int32) (M : Mem), gX3_countWhatIsLeft_79 k33 x1 M = some res → ∀ (H : Heap) (locs : List Loc) (ls : Array Slot), WW E b M TC MM TM s H locs → lv_has ls 2 [(0, .ref (b + 185)), (1, .int x1)] → W p l e rmX3_countWhatIsLeft s m args below meth c H locs 0 0 (MQ below (va_Qv (fun (_ : Unit) => True) (fun _ t => PW E b res TC MM TM t) (AA b)) args s 0 0 (AA b)) (F0 m 79 ls []) := by
  have hx := X.1
  have hb := X.2.1
  intro x1 M hf H locs ls hw hl
  rw [gX3_countWhatIsLeft_79] at hf
  obtain ⟨z15, ez15⟩ : ∃ y : Int32, y = x1 + 1 := ⟨_, rfl⟩
  replace hf := nmb hf ez15
  refine lv_iinc (v := z15) (lv' := [(1, .int z15), (0, .ref (b + 185))]) hx hb dX3_countWhatIsLeft_79 hl (k := 1) rfl (by rw [ez15]; rfl) (by decide) rfl (fun ls hl => ?_)
  refine lv_goto (tgt := 33) hx hb dX3_countWhatIsLeft_82 (by decide) ?_
  exact hk33 z15 M hf H locs ls hw (lv_sub hl [1, 0] rfl)
set_option maxHeartbeats 4000000 in
set_option maxRecDepth 100000 in
theorem tX3_countWhatIsLeft_33 {p : Program} {l : Launch} {e : Env} {s : State} {m : MethodId} {args : Array Value} {below : List Frame} {meth : Method} {c : Code} {E : EE} {b : Nat} {TC : Int64} {MM : Mem} {TM : Int64} {res : Mem} (X : CX E p s m args c cX3_countWhatIsLeft 2 RX3) (hr : meth.sig.returnType = none) (hlk : meth.locks = false)    : ∀ (n : Nat) (x1 : Int32) (M : Mem), gX3_countWhatIsLeft_33 n x1 M = some res → ∀ (H : Heap) (locs : List Loc) (ls : Array Slot), WW E b M TC MM TM s H locs → lv_has ls 2 [(0, .ref (b + 185)), (1, .int x1)] → W p l e rmX3_countWhatIsLeft s m args below meth c H locs 0 0 (MQ below (va_Qv (fun (_ : Unit) => True) (fun _ t => PW E b res TC MM TM t) (AA b)) args s 0 0 (AA b)) (F0 m 33 ls []) := by
  have hx := X.1
  have hb := X.2.1
  intro n
  induction n with
  | zero =>
    intro x1 M hf
    cases (show (none : Option (Mem)) = some res from hf)
  | succ n ih =>
    intro x1 M hf H locs ls hw hl
    rw [gX3_countWhatIsLeft_33] at hf
    refine lv_iload_n hx hb dX3_countWhatIsLeft_33 rfl (lv_at hl 1 rfl) ?_
    refine lv_aload_n hx hb dX3_countWhatIsLeft_34 rfl (lv_at hl 0 rfl) ?_
    refine gt_X3 X hw 6 kk_185 rfl (by decide) mw_257 rfl dX3_countWhatIsLeft_35 ?_
    refine lv_icmp_ge (tgt := 85) hx hb dX3_countWhatIsLeft_38 (by decide) (fun c7 => ?_) (fun c7 => ?_)
    · replace hf := (if_pos c7).symm.trans hf
      replace hf := Option.some.inj hf
      subst hf
      exact eV X hw hr hlk dX3_countWhatIsLeft_85
    · replace hf := (if_neg c7).symm.trans hf
      refine lv_aload_n hx hb dX3_countWhatIsLeft_41 rfl (lv_at hl 0 rfl) ?_
      refine gt_X3 X hw 0 kk_185 rfl (by decide) mw_251 rfl dX3_countWhatIsLeft_42 ?_
      refine lv_aload_n hx hb dX3_countWhatIsLeft_45 rfl (lv_at hl 0 rfl) ?_
      refine gt_X3 X hw 2 kk_185 rfl (by decide) mw_253 rfl dX3_countWhatIsLeft_46 ?_
      refine lv_iload_n hx hb dX3_countWhatIsLeft_49 rfl (lv_at hl 1 rfl) ?_
      obtain ⟨v8, q9, hf⟩ := ob hf
      refine aldC X hw kdv_188 q9 dX3_countWhatIsLeft_50 ?_
      refine lv_dup2_11 hx hb dX3_countWhatIsLeft_51 rfl rfl ?_
      obtain ⟨v10, q11, hf⟩ := ob hf
      refine aldC X hw kdv_186 q11 dX3_countWhatIsLeft_52 ?_
      refine lv_iconst (v := 1) hx hb dX3_countWhatIsLeft_53 (by decide) ?_
      refine lv_iadd hx hb dX3_countWhatIsLeft_54 ?_
      obtain ⟨M12, q13, hf⟩ := ob hf
      refine astC X hw kdv_186 q13 dX3_countWhatIsLeft_55 (fun H locs hw => ?_)
      refine lv_iload_n hx hb dX3_countWhatIsLeft_56 rfl (lv_at hl 1 rfl) ?_
      refine lv_aload_n hx hb dX3_countWhatIsLeft_57 rfl (lv_at hl 0 rfl) ?_
      refine gt_X3 X hw 5 kk_185 rfl (by decide) mw_256 rfl dX3_countWhatIsLeft_58 ?_
      refine lv_icmp_lt (tgt := 79) hx hb dX3_countWhatIsLeft_61 (by decide) (fun c14 => ?_) (fun c14 => ?_)
      · replace hf := (if_pos c14).symm.trans hf
        exact tX3_countWhatIsLeft_79 X hr hlk ih x1 M12 hf H locs ls hw (lv_sub hl [0, 1] rfl)
      · replace hf := (if_neg c14).symm.trans hf
        refine lv_aload_n hx hb dX3_countWhatIsLeft_64 rfl (lv_at hl 0 rfl) ?_
        refine gt_X3 X hw 1 kk_185 rfl (by decide) mw_252 rfl dX3_countWhatIsLeft_65 ?_
        refine lv_aload_n hx hb dX3_countWhatIsLeft_68 rfl (lv_at hl 0 rfl) ?_
        refine gt_X3 X hw 2 kk_185 rfl (by decide) mw_253 rfl dX3_countWhatIsLeft_69 ?_
        refine lv_iload_n hx hb dX3_countWhatIsLeft_72 rfl (lv_at hl 1 rfl) ?_
        obtain ⟨v16, q17, hf⟩ := ob hf
        refine aldC X hw kdv_188 q17 dX3_countWhatIsLeft_73 ?_
        refine lv_dup2_11 hx hb dX3_countWhatIsLeft_74 rfl rfl ?_
        obtain ⟨v18, q19, hf⟩ := ob hf
        refine aldC X hw kdv_187 q19 dX3_countWhatIsLeft_75 ?_
        refine lv_iconst (v := 1) hx hb dX3_countWhatIsLeft_76 (by decide) ?_
        refine lv_iadd hx hb dX3_countWhatIsLeft_77 ?_
        obtain ⟨M20, q21, hf⟩ := ob hf
        refine astC X hw kdv_187 q21 dX3_countWhatIsLeft_78 (fun H locs hw => ?_)
        exact tX3_countWhatIsLeft_79 X hr hlk ih x1 M20 hf H locs ls hw (lv_sub hl [0, 1] rfl)
set_option maxHeartbeats 4000000 in
set_option maxRecDepth 100000 in
theorem ctX3_countWhatIsLeft (l : Launch) (E : EE) (b : Nat) {TC : Int64} {MM : Mem} {TM : Int64} {M : Mem} {res : Mem}  (hf : gX3_countWhatIsLeft M = some res) : MetV l E b yX3_countWhatIsLeft (.code yX3_countWhatIsLeft cX3_countWhatIsLeft 2 none) rmX3_countWhatIsLeft [.ref (b + 185)] M TC MM TM res TC MM TM := by
  refine Met.ofW (cc := cX3_countWhatIsLeft) (maxL := 2) (ret := none) (by decide) rfl ?_
  intro p e s m args below meth c s₁ B hml hv
  obtain ⟨rfl, hP, hK⟩ := hv
  have hx := B.exec
  have hb := B.bytes
  have X : CX E p s m _ c cX3_countWhatIsLeft 2 RX3 := ⟨hx, hb, hml, findClass_of_methodNamed B.named, fun w h => atoms_spec (ws := _ :: wt) B.pre w (List.mem_cons_of_mem _ h), hK⟩
  have hr := B.returns
  have hlk := B.notSynchronized
  have hw : WW E b M TC MM TM s s.heap [] := ⟨hP, va_S.rf⟩
  have hl := lv_entry ([.ref (b + 185)]) (n := 2) (Nat.le_of_ble_eq_true rfl)
  rw [lg_entry_eq]
  generalize (lg_sl ([.ref (b + 185)]) ++ List.replicate (2 - (lg_sl ([.ref (b + 185)])).length) Slot.unset).toArray = ls at hl ⊢
  have hl : lv_has ls 2 [(0, .ref (b + 185))] := hl
  obtain ⟨H, hH⟩ : ∃ H, H = s.heap := ⟨_, rfl⟩
  obtain ⟨locs, hL⟩ : ∃ L : List Loc, L = [] := ⟨_, rfl⟩
  rw [← hH, ← hL] at hw
  suffices hg : W p l e rmX3_countWhatIsLeft s m _ below meth c H locs 0 0 (MQ below (va_Qv (fun (_ : Unit) => True) (fun _ t => PW E b res TC MM TM t) (AA b)) _ s 0 0 (AA b)) (F0 m 0 ls []) by rw [hH, hL] at hg; exact hg
  clear hH hL
  rw [gX3_countWhatIsLeft] at hf
  refine lv_aload_n hx hb dX3_countWhatIsLeft_0 rfl (lv_at hl 0 rfl) ?_
  refine gt_X3 X hw 0 kk_185 rfl (by decide) mw_251 rfl dX3_countWhatIsLeft_1 ?_
  refine lv_iconst (v := 0) hx hb dX3_countWhatIsLeft_4 (by decide) ?_
  obtain ⟨u1, q2, hf⟩ := ob hf
  refine cSv (As := [.ref (b + 186), .int 0]) X hw (ctJ7_fill_53178 l E b kdv_186 q2) ⟨mw_551, mw_176, mw_58, mw_177⟩ hd_J7_fill_53178 ⟨Nat.le_of_ble_eq_true rfl, Nat.le_of_ble_eq_true rfl, rfl, rfl⟩ rfl hl.1 rfl (Nat.le_of_ble_eq_true rfl) dX3_countWhatIsLeft_5 (fun H locs hw => ?_)
  refine lv_aload_n hx hb dX3_countWhatIsLeft_8 rfl (lv_at hl 0 rfl) ?_
  refine gt_X3 X hw 1 kk_185 rfl (by decide) mw_252 rfl dX3_countWhatIsLeft_9 ?_
  refine lv_iconst (v := 0) hx hb dX3_countWhatIsLeft_12 (by decide) ?_
  obtain ⟨u3, q4, hf⟩ := ob hf
  refine cSv (As := [.ref (b + 187), .int 0]) X hw (ctJ7_fill_53178 l E b kdv_187 q4) ⟨mw_551, mw_176, mw_58, mw_177⟩ hd_J7_fill_53178 ⟨Nat.le_of_ble_eq_true rfl, Nat.le_of_ble_eq_true rfl, rfl, rfl⟩ rfl hl.1 rfl (Nat.le_of_ble_eq_true rfl) dX3_countWhatIsLeft_13 (fun H locs hw => ?_)
  refine lv_aload_n hx hb dX3_countWhatIsLeft_16 rfl (lv_at hl 0 rfl) ?_
  refine gt_X3 X hw 6 kk_185 rfl (by decide) mw_257 rfl dX3_countWhatIsLeft_17 ?_
  refine lv_aload_n hx hb dX3_countWhatIsLeft_20 rfl (lv_at hl 0 rfl) ?_
  refine gt_X3 X hw 6 kk_185 rfl (by decide) mw_257 rfl dX3_countWhatIsLeft_21 ?_
  refine lv_aload_n hx hb dX3_countWhatIsLeft_24 rfl (lv_at hl 0 rfl) ?_
  refine gt_X3 X hw 7 kk_185 rfl (by decide) mw_258 rfl dX3_countWhatIsLeft_25 ?_
  refine va_mmin hx hb (by rw [X.2.2.1]; exact hl.1.symm) X.2.2.2.1 (X.2.2.2.2.1 _ mw_556) (X.2.2.2.2.1 _ mw_354) (X.2.2.2.2.1 _ mw_62) (X.2.2.2.2.1 _ code_min) (Nat.le_of_ble_eq_true rfl) (Nat.le_of_ble_eq_true rfl) (Nat.zero_le _) (Nat.zero_le _) dX3_countWhatIsLeft_28 ?_
  refine lv_topi (fun z5 ez5 => ?_)
  replace hf := nmb hf ez5
  refine lv_isub hx hb dX3_countWhatIsLeft_31 ?_
  refine lv_topi (fun z6 ez6 => ?_)
  replace hf := nmb hf ez6
  refine lv_istore_n (lv' := [(1, .int z6), (0, .ref (b + 185))]) hx hb dX3_countWhatIsLeft_32 rfl hl (by decide) rfl (fun ls hl => ?_)
  exact tX3_countWhatIsLeft_33 X hr hlk FU z6 u3 hf H locs ls hw (lv_sub hl [1, 0] rfl)

abbrev rmX3_suffices : Room := { frames := 1, cells := 0, slots := 0, locals := 21 }
theorem hd_X3_suffices : Hd yX3_suffices RX3 2 := by decide +kernel
def gX3_suffices_104   (y0 : Int32) (M : Mem) : Option (Int32) := (zr y0).bind fun v27 => some (v27)
def gX3_suffices_81  (k18 : Int32 → Int32 → Int32 → Int32 → Int32 → Int32 → Mem → Option (Int32)) (x1 : Int32) (x2 : Int32) (x3 : Int32) (x4 : Int32) (x5 : Int32) (x6 : Int32) (M : Mem) : Option (Int32) := (some (x6 + 1)).bind fun z31 => k18 x1 x2 x3 x4 x5 z31 M
def gX3_suffices_18   : Nat → Int32 → Int32 → Int32 → Int32 → Int32 → Int32 → Mem → Option (Int32)
  | 0, _, _, _, _, _, _, _ => none
  | n + 1, x1, x2, x3, x4, x5, x6, M => if 10 ≤ x6 then (if x2 < x4 then (gX3_suffices_104 0 M) else (if x5 < x2 then (gX3_suffices_104 0 M) else (gX3_suffices_104 1 M))) else (if x6 = x1 then (gX3_suffices_81 (gX3_suffices_18 n) x1 x2 x3 x4 x5 x6 M) else ((ldA 10 (M 186) x6).bind fun v32 => (some (mx 0 ((v32 - x3) + 1))).bind fun z34 => (ldA 10 (M 187) x6).bind fun v35 => if z34 ≤ v35 then ((some (x4 + z34)).bind fun z38 => (ldA 10 (M 187) x6).bind fun v39 => (some (x5 + v39)).bind fun z41 => gX3_suffices_81 (gX3_suffices_18 n) x1 x2 x3 z38 z41 x6 M) else (some (0))))
def gX3_suffices (x1 : Int32) (x2 : Int32) (M : Mem) : Option (Int32) := (ldA 10 (M 186) x1).bind fun v22 => (some (v22 + x2)).bind fun z24 => gX3_suffices_18 FU x1 x2 z24 0 0 0 M
set_option maxHeartbeats 4000000 in
set_option maxRecDepth 100000 in
theorem tX3_suffices_104 {p : Program} {l : Launch} {e : Env} {s : State} {m : MethodId} {args : Array Value} {below : List Frame} {meth : Method} {c : Code} {E : EE} {b : Nat} {TC : Int64} {MM : Mem} {TM : Int64} {res : Int32} (X : CX E p s m args c cX3_suffices 8 RX3) (hr : meth.sig.returnType = (some .boolean)) (hlk : meth.locks = false)    : ∀ (y0 : Int32) (M : Mem), gX3_suffices_104 y0 M = some res → ∀ (H : Heap) (locs : List Loc) (ls : Array Slot), WW E b M TC MM TM s H locs → lv_has ls 8 [] → W p l e rmX3_suffices s m args below meth c H locs 0 0 (MQ below (va_Qi (fun x (_ : Unit) => x = res) (fun _ t => PW E b M TC MM TM t) (AA b)) args s 0 0 (AA b)) (F0 m 104 ls [.int y0]) := by
  have hx := X.1
  have hb := X.2.1
  intro y0 M hf H locs ls hw hl
  rw [gX3_suffices_104] at hf
  obtain ⟨v27, q28, hf⟩ := ob hf
  obtain ⟨eq28, q28⟩ := zr_s q28
  rw [eq28]
  replace hf := Option.some.inj hf
  subst hf
  exact eZ X hw q28 hr hlk dX3_suffices_104
set_option maxHeartbeats 4000000 in
set_option maxRecDepth 100000 in
theorem tX3_suffices_81 {p : Program} {l : Launch} {e : Env} {s : State} {m : MethodId} {args : Array Value} {below : List Frame} {meth : Method} {c : Code} {E : EE} {b : Nat} {TC : Int64} {MM : Mem} {TM : Int64} {res : Int32} (X : CX E p s m args c cX3_suffices 8 RX3) (hr : meth.sig.returnType = (some .boolean)) (hlk : meth.locks = false)   {k18 : Int32 → Int32 → Int32 → Int32 → Int32 → Int32 → Mem → Option (Int32)} (hk18 : ∀ (x1 : Int32) (x2 : Int32) (x3 : Int32) (x4 : Int32) (x5 : Int32) (x6 : Int32) (M : Mem), k18 x1 x2 x3 x4 x5 x6 M = some res → ∀ (H : Heap) (locs : List Loc) (ls : Array Slot), WW E b M TC MM TM s H locs → lv_has ls 8 [(0, .ref (b + 185)), (1, .int x1), (2, .int x2), (3, .int x3), (4, .int x4), (5, .int x5), (6, .int x6)] → W p l e rmX3_suffices s m args below meth c H locs 0 0 (MQ below (va_Qi (fun x (_ : Unit) => x = res) (fun _ t => PW E b M TC MM TM t) (AA b)) args s 0 0 (AA b)) (F0 m 18 ls [])) : ∀ (x1 : Int32) (x2 : Int32) (x3 : Int32) (x4 : Int32) (x5 : Int32) (x6 : Int32) (M : Mem), gX3_suffices_81 k18 x1 x2 x3 x4 x5 x6 M = some res → ∀ (H : Heap) (locs : List Loc) (ls : Array Slot), WW E b M TC MM TM s H locs → lv_has ls 8 [(0, .ref (b + 185)), (1, .int x1), (2, .int x2), (3, .int x3), (4, .int x4), (5, .int x5), (6, .int x6)] → W p l e rmX3_suffices s m args below meth c H locs 0 0 (MQ below (va_Qi (fun x (_ : Unit) => x = res) (fun _ t => PW E b M TC MM TM t) (AA b)) args s 0 0 (AA b)) (F0 m 81 ls []) := by
  have hx := X.1
  have hb := X.2.1
  intro x1 x2 x3 x4 x5 x6 M hf H locs ls hw hl
  rw [gX3_suffices_81] at hf
  obtain ⟨z31, ez31⟩ : ∃ y : Int32, y = x6 + 1 := ⟨_, rfl⟩
  replace hf := nmb hf ez31
  refine lv_iinc (v := z31) (lv' := [(6, .int z31), (0, .ref (b + 185)), (1, .int x1), (2, .int x2), (3, .int x3), (4, .int x4), (5, .int x5)]) hx hb dX3_suffices_81 hl (k := 6) rfl (by rw [ez31]; rfl) (by decide) rfl (fun ls hl => ?_)
  refine lv_goto (tgt := 18) hx hb dX3_suffices_84 (by decide) ?_
  exact hk18 x1 x2 x3 x4 x5 z31 M hf H locs ls hw (lv_sub hl [1, 2, 3, 4, 5, 6, 0] rfl)
set_option maxHeartbeats 4000000 in
set_option maxRecDepth 100000 in
theorem tX3_suffices_18 {p : Program} {l : Launch} {e : Env} {s : State} {m : MethodId} {args : Array Value} {below : List Frame} {meth : Method} {c : Code} {E : EE} {b : Nat} {TC : Int64} {MM : Mem} {TM : Int64} {res : Int32} (X : CX E p s m args c cX3_suffices 8 RX3) (hr : meth.sig.returnType = (some .boolean)) (hlk : meth.locks = false)    : ∀ (n : Nat) (x1 : Int32) (x2 : Int32) (x3 : Int32) (x4 : Int32) (x5 : Int32) (x6 : Int32) (M : Mem), gX3_suffices_18 n x1 x2 x3 x4 x5 x6 M = some res → ∀ (H : Heap) (locs : List Loc) (ls : Array Slot), WW E b M TC MM TM s H locs → lv_has ls 8 [(0, .ref (b + 185)), (1, .int x1), (2, .int x2), (3, .int x3), (4, .int x4), (5, .int x5), (6, .int x6)] → W p l e rmX3_suffices s m args below meth c H locs 0 0 (MQ below (va_Qi (fun x (_ : Unit) => x = res) (fun _ t => PW E b M TC MM TM t) (AA b)) args s 0 0 (AA b)) (F0 m 18 ls []) := by
  have hx := X.1
  have hb := X.2.1
  intro n
  induction n with
  | zero =>
    intro x1 x2 x3 x4 x5 x6 M hf
    cases (show (none : Option (Int32)) = some res from hf)
  | succ n ih =>
    intro x1 x2 x3 x4 x5 x6 M hf H locs ls hw hl
    rw [gX3_suffices_18] at hf
    refine lv_iload hx hb dX3_suffices_18 (lv_at hl 6 rfl) ?_
    refine lv_bipush (v := 10) hx hb dX3_suffices_20 (by decide) ?_
    refine lv_icmp_ge (tgt := 87) hx hb dX3_suffices_22 (by decide) (fun c25 => ?_) (fun c25 => ?_)
    · replace hf := (if_pos c25).symm.trans hf
      refine lv_iload hx hb dX3_suffices_87 (lv_at hl 4 rfl) ?_
      refine lv_iload_n hx hb dX3_suffices_89 rfl (lv_at hl 2 rfl) ?_
      refine lv_icmp_gt (tgt := 103) hx hb dX3_suffices_90 (by decide) (fun c26 => ?_) (fun c26 => ?_)
      · replace hf := (if_pos c26).symm.trans hf
        refine lv_iconst (v := 0) hx hb dX3_suffices_103 (by decide) ?_
        exact tX3_suffices_104 X hr hlk 0 M hf H locs ls hw (lv_sub hl [] rfl)
      · replace hf := (if_neg c26).symm.trans hf
        refine lv_iload_n hx hb dX3_suffices_93 rfl (lv_at hl 2 rfl) ?_
        refine lv_iload hx hb dX3_suffices_94 (lv_at hl 5 rfl) ?_
        refine lv_icmp_gt (tgt := 103) hx hb dX3_suffices_96 (by decide) (fun c29 => ?_) (fun c29 => ?_)
        · replace hf := (if_pos c29).symm.trans hf
          refine lv_iconst (v := 0) hx hb dX3_suffices_103 (by decide) ?_
          exact tX3_suffices_104 X hr hlk 0 M hf H locs ls hw (lv_sub hl [] rfl)
        · replace hf := (if_neg c29).symm.trans hf
          refine lv_iconst (v := 1) hx hb dX3_suffices_99 (by decide) ?_
          refine lv_goto (tgt := 104) hx hb dX3_suffices_100 (by decide) ?_
          exact tX3_suffices_104 X hr hlk 1 M hf H locs ls hw (lv_sub hl [] rfl)
    · replace hf := (if_neg c25).symm.trans hf
      refine lv_iload hx hb dX3_suffices_25 (lv_at hl 6 rfl) ?_
      refine lv_iload_n hx hb dX3_suffices_27 rfl (lv_at hl 1 rfl) ?_
      refine lv_icmp_eq (tgt := 81) hx hb dX3_suffices_28 (by decide) (fun c30 => ?_) (fun c30 => ?_)
      · replace hf := (if_pos c30).symm.trans hf
        exact tX3_suffices_81 X hr hlk ih x1 x2 x3 x4 x5 x6 M hf H locs ls hw (lv_sub hl [0, 1, 2, 3, 4, 5, 6] rfl)
      · replace hf := (if_neg c30).symm.trans hf
        refine lv_iconst (v := 0) hx hb dX3_suffices_31 (by decide) ?_
        refine lv_aload_n hx hb dX3_suffices_32 rfl (lv_at hl 0 rfl) ?_
        refine gt_X3 X hw 0 kk_185 rfl (by decide) mw_251 rfl dX3_suffices_33 ?_
        refine lv_iload hx hb dX3_suffices_36 (lv_at hl 6 rfl) ?_
        obtain ⟨v32, q33, hf⟩ := ob hf
        refine aldC X hw kdv_186 q33 dX3_suffices_38 ?_
        refine lv_iload_n hx hb dX3_suffices_39 rfl (lv_at hl 3 rfl) ?_
        refine lv_isub hx hb dX3_suffices_40 ?_
        refine lv_iconst (v := 1) hx hb dX3_suffices_41 (by decide) ?_
        refine lv_iadd hx hb dX3_suffices_42 ?_
        refine va_mmax hx hb (by rw [X.2.2.1]; exact hl.1.symm) X.2.2.2.1 (X.2.2.2.2.1 _ mw_578) (X.2.2.2.2.1 _ mw_579) (X.2.2.2.2.1 _ mw_62) (X.2.2.2.2.1 _ code_max) (Nat.le_of_ble_eq_true rfl) (Nat.le_of_ble_eq_true rfl) (Nat.zero_le _) (Nat.zero_le _) dX3_suffices_43 ?_
        refine lv_topi (fun z34 ez34 => ?_)
        replace hf := nmb hf ez34
        refine lv_istore (lv' := [(7, .int z34), (0, .ref (b + 185)), (1, .int x1), (2, .int x2), (3, .int x3), (4, .int x4), (5, .int x5), (6, .int x6)]) hx hb dX3_suffices_46 hl (by decide) rfl (fun ls hl => ?_)
        refine lv_iload hx hb dX3_suffices_48 (lv_at hl 0 rfl) ?_
        refine lv_aload_n hx hb dX3_suffices_50 rfl (lv_at hl 1 rfl) ?_
        refine gt_X3 X hw 1 kk_185 rfl (by decide) mw_252 rfl dX3_suffices_51 ?_
        refine lv_iload hx hb dX3_suffices_54 (lv_at hl 7 rfl) ?_
        obtain ⟨v35, q36, hf⟩ := ob hf
        refine aldC X hw kdv_187 q36 dX3_suffices_56 ?_
        refine lv_icmp_le (tgt := 62) hx hb dX3_suffices_57 (by decide) (fun c37 => ?_) (fun c37 => ?_)
        · replace hf := (if_pos c37).symm.trans hf
          refine lv_iload hx hb dX3_suffices_62 (lv_at hl 5 rfl) ?_
          refine lv_iload hx hb dX3_suffices_64 (lv_at hl 0 rfl) ?_
          refine lv_iadd hx hb dX3_suffices_66 ?_
          refine lv_topi (fun z38 ez38 => ?_)
          replace hf := nmb hf ez38
          refine lv_istore (lv' := [(4, .int z38), (7, .int z34), (0, .ref (b + 185)), (1, .int x1), (2, .int x2), (3, .int x3), (5, .int x5), (6, .int x6)]) hx hb dX3_suffices_67 hl (by decide) rfl (fun ls hl => ?_)
          refine lv_iload hx hb dX3_suffices_69 (lv_at hl 6 rfl) ?_
          refine lv_aload_n hx hb dX3_suffices_71 rfl (lv_at hl 2 rfl) ?_
          refine gt_X3 X hw 1 kk_185 rfl (by decide) mw_252 rfl dX3_suffices_72 ?_
          refine lv_iload hx hb dX3_suffices_75 (lv_at hl 7 rfl) ?_
          obtain ⟨v39, q40, hf⟩ := ob hf
          refine aldC X hw kdv_187 q40 dX3_suffices_77 ?_
          refine lv_iadd hx hb dX3_suffices_78 ?_
          refine lv_topi (fun z41 ez41 => ?_)
          replace hf := nmb hf ez41
          refine lv_istore (lv' := [(5, .int z41), (4, .int z38), (7, .int z34), (0, .ref (b + 185)), (1, .int x1), (2, .int x2), (3, .int x3), (6, .int x6)]) hx hb dX3_suffices_79 hl (by decide) rfl (fun ls hl => ?_)
          exact tX3_suffices_81 X hr hlk ih x1 x2 x3 z38 z41 x6 M hf H locs ls hw (lv_sub hl [3, 4, 5, 6, 1, 0, 7] rfl)
        · replace hf := (if_neg c37).symm.trans hf
          refine lv_iconst (v := 0) hx hb dX3_suffices_60 (by decide) ?_
          replace hf := Option.some.inj hf
          subst hf
          exact eZ X hw (show (0 : Int32) = 0 ∨ (0 : Int32) = 1 by decide) hr hlk dX3_suffices_61
set_option maxHeartbeats 4000000 in
set_option maxRecDepth 100000 in
theorem ctX3_suffices (l : Launch) (E : EE) (b : Nat) {TC : Int64} {MM : Mem} {TM : Int64} {x1 : Int32} {x2 : Int32} {M : Mem} {res : Int32}  (hf : gX3_suffices x1 x2 M = some res) : MetI l E b yX3_suffices (.code yX3_suffices cX3_suffices 8 (some .boolean)) rmX3_suffices [.ref (b + 185), .int x1, .int x2] M TC MM TM res M TC MM TM := by
  refine Met.ofW (cc := cX3_suffices) (maxL := 8) (ret := (some .boolean)) (by decide) rfl ?_
  intro p e s m args below meth c s₁ B hml hv
  obtain ⟨rfl, hP, hK⟩ := hv
  have hx := B.exec
  have hb := B.bytes
  have X : CX E p s m _ c cX3_suffices 8 RX3 := ⟨hx, hb, hml, findClass_of_methodNamed B.named, fun w h => atoms_spec (ws := _ :: wt) B.pre w (List.mem_cons_of_mem _ h), hK⟩
  have hr := B.returns
  have hlk := B.notSynchronized
  have hw : WW E b M TC MM TM s s.heap [] := ⟨hP, va_S.rf⟩
  have hl := lv_entry ([.ref (b + 185), .int x1, .int x2]) (n := 8) (Nat.le_of_ble_eq_true rfl)
  rw [lg_entry_eq]
  generalize (lg_sl ([.ref (b + 185), .int x1, .int x2]) ++ List.replicate (8 - (lg_sl ([.ref (b + 185), .int x1, .int x2])).length) Slot.unset).toArray = ls at hl ⊢
  have hl : lv_has ls 8 [(0, .ref (b + 185)), (1, .int x1), (2, .int x2)] := hl
  obtain ⟨H, hH⟩ : ∃ H, H = s.heap := ⟨_, rfl⟩
  obtain ⟨locs, hL⟩ : ∃ L : List Loc, L = [] := ⟨_, rfl⟩
  rw [← hH, ← hL] at hw
  suffices hg : W p l e rmX3_suffices s m _ below meth c H locs 0 0 (MQ below (va_Qi (fun x (_ : Unit) => x = res) (fun _ t => PW E b M TC MM TM t) (AA b)) _ s 0 0 (AA b)) (F0 m 0 ls []) by rw [hH, hL] at hg; exact hg
  clear hH hL
  rw [gX3_suffices] at hf
  refine lv_aload_n hx hb dX3_suffices_0 rfl (lv_at hl 0 rfl) ?_
  refine gt_X3 X hw 0 kk_185 rfl (by decide) mw_251 rfl dX3_suffices_1 ?_
  refine lv_iload_n hx hb dX3_suffices_4 rfl (lv_at hl 1 rfl) ?_
  obtain ⟨v22, q23, hf⟩ := ob hf
  refine aldC X hw kdv_186 q23 dX3_suffices_5 ?_
  refine lv_iload_n hx hb dX3_suffices_6 rfl (lv_at hl 2 rfl) ?_
  refine lv_iadd hx hb dX3_suffices_7 ?_
  refine lv_topi (fun z24 ez24 => ?_)
  replace hf := nmb hf ez24
  refine lv_istore_n (lv' := [(3, .int z24), (0, .ref (b + 185)), (1, .int x1), (2, .int x2)]) hx hb dX3_suffices_8 rfl hl (by decide) rfl (fun ls hl => ?_)
  refine lv_iconst (v := 0) hx hb dX3_suffices_9 (by decide) ?_
  refine lv_istore (lv' := [(4, .int 0), (3, .int z24), (0, .ref (b + 185)), (1, .int x1), (2, .int x2)]) hx hb dX3_suffices_10 hl (by decide) rfl (fun ls hl => ?_)
  refine lv_iconst (v := 0) hx hb dX3_suffices_12 (by decide) ?_
  refine lv_istore (lv' := [(5, .int 0), (4, .int 0), (3, .int z24), (0, .ref (b + 185)), (1, .int x1), (2, .int x2)]) hx hb dX3_suffices_13 hl (by decide) rfl (fun ls hl => ?_)
  refine lv_iconst (v := 0) hx hb dX3_suffices_15 (by decide) ?_
  refine lv_istore (lv' := [(6, .int 0), (5, .int 0), (4, .int 0), (3, .int z24), (0, .ref (b + 185)), (1, .int x1), (2, .int x2)]) hx hb dX3_suffices_16 hl (by decide) rfl (fun ls hl => ?_)
  exact tX3_suffices_18 X hr hlk FU x1 x2 z24 0 0 0 M hf H locs ls hw (lv_sub hl [4, 5, 6, 3, 2, 1, 0] rfl)

abbrev rmX3_fewestDays : Room := { frames := 2, cells := 0, slots := 0, locals := 48 }
theorem hd_X3_fewestDays : Hd yX3_fewestDays RX3 1 := by decide +kernel
def gX3_fewestDays_6   : Nat → Int32 → Int32 → Mem → Option (Int32 × Mem)
  | 0, _, _, _ => none
  | n + 1, x1, x2, M => if ((M 185 6) - (M 185 5)) < x2 then (some ((-9), M)) else ((gX3_suffices x1 x2 M).bind fun u45 => if u45 = 0 then ((some (x2 + 1)).bind fun z48 => (gX3_fewestDays_6 n) x1 z48 M) else (some (x2, M)))
def gX3_fewestDays (x1 : Int32) (M : Mem) : Option (Int32 × Mem) := (gX3_countWhatIsLeft M).bind fun u42 => gX3_fewestDays_6 FU x1 0 u42
set_option maxHeartbeats 4000000 in
set_option maxRecDepth 100000 in
theorem tX3_fewestDays_6 {p : Program} {l : Launch} {e : Env} {s : State} {m : MethodId} {args : Array Value} {below : List Frame} {meth : Method} {c : Code} {E : EE} {b : Nat} {TC : Int64} {MM : Mem} {TM : Int64} {res : Int32 × Mem} (X : CX E p s m args c cX3_fewestDays 3 RX3) (hr : meth.sig.returnType = (some .int)) (hlk : meth.locks = false)    : ∀ (n : Nat) (x1 : Int32) (x2 : Int32) (M : Mem), gX3_fewestDays_6 n x1 x2 M = some res → ∀ (H : Heap) (locs : List Loc) (ls : Array Slot), WW E b M TC MM TM s H locs → lv_has ls 3 [(0, .ref (b + 185)), (1, .int x1), (2, .int x2)] → W p l e rmX3_fewestDays s m args below meth c H locs 0 0 (MQ below (va_Qi (fun x (_ : Unit) => x = res.1) (fun _ t => PW E b res.2 TC MM TM t) (AA b)) args s 0 0 (AA b)) (F0 m 6 ls []) := by
  have hx := X.1
  have hb := X.2.1
  intro n
  induction n with
  | zero =>
    intro x1 x2 M hf
    cases (show (none : Option (Int32 × Mem)) = some res from hf)
  | succ n ih =>
    intro x1 x2 M hf H locs ls hw hl
    rw [gX3_fewestDays_6] at hf
    refine lv_iload_n hx hb dX3_fewestDays_6 rfl (lv_at hl 2 rfl) ?_
    refine lv_aload_n hx hb dX3_fewestDays_7 rfl (lv_at hl 0 rfl) ?_
    refine gt_X3 X hw 6 kk_185 rfl (by decide) mw_257 rfl dX3_fewestDays_8 ?_
    refine lv_aload_n hx hb dX3_fewestDays_11 rfl (lv_at hl 0 rfl) ?_
    refine gt_X3 X hw 5 kk_185 rfl (by decide) mw_256 rfl dX3_fewestDays_12 ?_
    refine lv_isub hx hb dX3_fewestDays_15 ?_
    refine lv_icmp_gt (tgt := 36) hx hb dX3_fewestDays_16 (by decide) (fun c44 => ?_) (fun c44 => ?_)
    · replace hf := (if_pos c44).symm.trans hf
      refine lv_bipush (v := (-9)) hx hb dX3_fewestDays_36 (by decide) ?_
      replace hf := Option.some.inj hf
      subst hf
      exact eI X hw hr hlk dX3_fewestDays_38
    · replace hf := (if_neg c44).symm.trans hf
      refine lv_aload_n hx hb dX3_fewestDays_19 rfl (lv_at hl 0 rfl) ?_
      refine lv_iload_n hx hb dX3_fewestDays_20 rfl (lv_at hl 1 rfl) ?_
      refine lv_iload_n hx hb dX3_fewestDays_21 rfl (lv_at hl 2 rfl) ?_
      obtain ⟨u45, q46, hf⟩ := ob hf
      refine cVi (As := [.int x1, .int x2]) X hw (ctX3_suffices l E b  q46) ⟨mw_574, mw_576, mw_18, mw_60, mw_577⟩ hd_X3_suffices ⟨Nat.le_of_ble_eq_true rfl, Nat.le_of_ble_eq_true rfl, rfl, rfl⟩ (kdk kk_185 (by decide)) (ce_X3 E _ _ _ _ kk_185) (show vwCl[3]? = some (RX3, TX3, 8) from rfl) rfl hl.1 rfl (Nat.le_of_ble_eq_true rfl) dX3_fewestDays_22 (fun H locs hw => ?_)
      refine lv_if_eq (tgt := 30) hx hb dX3_fewestDays_25 (by decide) (fun c47 => ?_) (fun c47 => ?_)
      · replace hf := (if_pos c47).symm.trans hf
        obtain ⟨z48, ez48⟩ : ∃ y : Int32, y = x2 + 1 := ⟨_, rfl⟩
        replace hf := nmb hf ez48
        refine lv_iinc (v := z48) (lv' := [(2, .int z48), (0, .ref (b + 185)), (1, .int x1)]) hx hb dX3_fewestDays_30 hl (k := 2) rfl (by rw [ez48]; rfl) (by decide) rfl (fun ls hl => ?_)
        refine lv_goto (tgt := 6) hx hb dX3_fewestDays_33 (by decide) ?_
        exact ih x1 z48 M hf H locs ls hw (lv_sub hl [1, 2, 0] rfl)
      · replace hf := (if_neg c47).symm.trans hf
        refine lv_iload_n hx hb dX3_fewestDays_28 rfl (lv_at hl 2 rfl) ?_
        replace hf := Option.some.inj hf
        subst hf
        exact eI X hw hr hlk dX3_fewestDays_29
set_option maxHeartbeats 4000000 in
set_option maxRecDepth 100000 in
theorem ctX3_fewestDays (l : Launch) (E : EE) (b : Nat) {TC : Int64} {MM : Mem} {TM : Int64} {x1 : Int32} {M : Mem} {res : Int32 × Mem}  (hf : gX3_fewestDays x1 M = some res) : MetI l E b yX3_fewestDays (.code yX3_fewestDays cX3_fewestDays 3 (some .int)) rmX3_fewestDays [.ref (b + 185), .int x1] M TC MM TM res.1 res.2 TC MM TM := by
  refine Met.ofW (cc := cX3_fewestDays) (maxL := 3) (ret := (some .int)) (by decide) rfl ?_
  intro p e s m args below meth c s₁ B hml hv
  obtain ⟨rfl, hP, hK⟩ := hv
  have hx := B.exec
  have hb := B.bytes
  have X : CX E p s m _ c cX3_fewestDays 3 RX3 := ⟨hx, hb, hml, findClass_of_methodNamed B.named, fun w h => atoms_spec (ws := _ :: wt) B.pre w (List.mem_cons_of_mem _ h), hK⟩
  have hr := B.returns
  have hlk := B.notSynchronized
  have hw : WW E b M TC MM TM s s.heap [] := ⟨hP, va_S.rf⟩
  have hl := lv_entry ([.ref (b + 185), .int x1]) (n := 3) (Nat.le_of_ble_eq_true rfl)
  rw [lg_entry_eq]
  generalize (lg_sl ([.ref (b + 185), .int x1]) ++ List.replicate (3 - (lg_sl ([.ref (b + 185), .int x1])).length) Slot.unset).toArray = ls at hl ⊢
  have hl : lv_has ls 3 [(0, .ref (b + 185)), (1, .int x1)] := hl
  obtain ⟨H, hH⟩ : ∃ H, H = s.heap := ⟨_, rfl⟩
  obtain ⟨locs, hL⟩ : ∃ L : List Loc, L = [] := ⟨_, rfl⟩
  rw [← hH, ← hL] at hw
  suffices hg : W p l e rmX3_fewestDays s m _ below meth c H locs 0 0 (MQ below (va_Qi (fun x (_ : Unit) => x = res.1) (fun _ t => PW E b res.2 TC MM TM t) (AA b)) _ s 0 0 (AA b)) (F0 m 0 ls []) by rw [hH, hL] at hg; exact hg
  clear hH hL
  rw [gX3_fewestDays] at hf
  refine lv_aload_n hx hb dX3_fewestDays_0 rfl (lv_at hl 0 rfl) ?_
  obtain ⟨u42, q43, hf⟩ := ob hf
  refine cVv (As := []) X hw (ctX3_countWhatIsLeft l E b  q43) ⟨mw_570, mw_572, mw_17, mw_60, mw_573⟩ hd_X3_countWhatIsLeft ⟨Nat.le_of_ble_eq_true rfl, Nat.le_of_ble_eq_true rfl, rfl, rfl⟩ (kdk kk_185 (by decide)) (ce_X3 E _ _ _ _ kk_185) (show vwCl[3]? = some (RX3, TX3, 8) from rfl) rfl hl.1 rfl (Nat.le_of_ble_eq_true rfl) dX3_fewestDays_1 (fun H locs hw => ?_)
  refine lv_iconst (v := 0) hx hb dX3_fewestDays_4 (by decide) ?_
  refine lv_istore_n (lv' := [(2, .int 0), (0, .ref (b + 185)), (1, .int x1)]) hx hb dX3_fewestDays_5 rfl hl (by decide) rfl (fun ls hl => ?_)
  exact tX3_fewestDays_6 X hr hlk FU x1 0 u42 hf H locs ls hw (lv_sub hl [1, 2, 0] rfl)

abbrev rmX2_isDigit : Room := { frames := 0, cells := 0, slots := 0, locals := 0 }
theorem hd_X2_isDigit : Hd yX2_isDigit RX2 1 := by decide +kernel
def gX2_isDigit_17   (y0 : Int32) : Option (Int32) := (zr y0).bind fun v50 => some (v50)
def gX2_isDigit (x0 : Int32) : Option (Int32) := if x0 < (48 : Int32) then (gX2_isDigit_17 0) else (if 57 < x0 then (gX2_isDigit_17 0) else (gX2_isDigit_17 1))
set_option maxHeartbeats 4000000 in
set_option maxRecDepth 100000 in
theorem tX2_isDigit_17 {p : Program} {l : Launch} {e : Env} {s : State} {m : MethodId} {args : Array Value} {below : List Frame} {meth : Method} {c : Code} {E : EE} {b : Nat} {MC : Mem} {TC : Int64} {MM : Mem} {TM : Int64} {res : Int32} (X : CX E p s m args c cX2_isDigit 1 RX2) (hr : meth.sig.returnType = (some .boolean)) (hlk : meth.locks = false)    : ∀ (y0 : Int32), gX2_isDigit_17 y0 = some res → ∀ (H : Heap) (locs : List Loc) (ls : Array Slot), WW E b MC TC MM TM s H locs → lv_has ls 1 [] → W p l e rmX2_isDigit s m args below meth c H locs 0 0 (MQ below (va_Qi (fun x (_ : Unit) => x = res) (fun _ t => PW E b MC TC MM TM t) (AA b)) args s 0 0 (AA b)) (F0 m 17 ls [.int y0]) := by
  have hx := X.1
  have hb := X.2.1
  intro y0 hf H locs ls hw hl
  rw [gX2_isDigit_17] at hf
  obtain ⟨v50, q51, hf⟩ := ob hf
  obtain ⟨eq51, q51⟩ := zr_s q51
  rw [eq51]
  replace hf := Option.some.inj hf
  subst hf
  exact eZ X hw q51 hr hlk dX2_isDigit_17
set_option maxHeartbeats 4000000 in
set_option maxRecDepth 100000 in
theorem ctX2_isDigit (l : Launch) (E : EE) (b : Nat) {MC : Mem} {TC : Int64} {MM : Mem} {TM : Int64} {x0 : Int32} {res : Int32}  (hf : gX2_isDigit x0 = some res) : MetI l E b yX2_isDigit (.code yX2_isDigit cX2_isDigit 1 (some .boolean)) rmX2_isDigit [.int x0] MC TC MM TM res MC TC MM TM := by
  refine Met.ofW (cc := cX2_isDigit) (maxL := 1) (ret := (some .boolean)) (by decide) rfl ?_
  intro p e s m args below meth c s₁ B hml hv
  obtain ⟨rfl, hP, hK⟩ := hv
  have hx := B.exec
  have hb := B.bytes
  have X : CX E p s m _ c cX2_isDigit 1 RX2 := ⟨hx, hb, hml, findClass_of_methodNamed B.named, fun w h => atoms_spec (ws := _ :: wt) B.pre w (List.mem_cons_of_mem _ h), hK⟩
  have hr := B.returns
  have hlk := B.notSynchronized
  have hw : WW E b MC TC MM TM s s.heap [] := ⟨hP, va_S.rf⟩
  have hl := lv_entry ([.int x0]) (n := 1) (Nat.le_of_ble_eq_true rfl)
  rw [lg_entry_eq]
  generalize (lg_sl ([.int x0]) ++ List.replicate (1 - (lg_sl ([.int x0])).length) Slot.unset).toArray = ls at hl ⊢
  have hl : lv_has ls 1 [(0, .int x0)] := hl
  obtain ⟨H, hH⟩ : ∃ H, H = s.heap := ⟨_, rfl⟩
  obtain ⟨locs, hL⟩ : ∃ L : List Loc, L = [] := ⟨_, rfl⟩
  rw [← hH, ← hL] at hw
  suffices hg : W p l e rmX2_isDigit s m _ below meth c H locs 0 0 (MQ below (va_Qi (fun x (_ : Unit) => x = res) (fun _ t => PW E b MC TC MM TM t) (AA b)) _ s 0 0 (AA b)) (F0 m 0 ls []) by rw [hH, hL] at hg; exact hg
  clear hH hL
  rw [gX2_isDigit] at hf
  refine lv_bipush (v := 48) hx hb dX2_isDigit_0 (by decide) ?_
  refine lv_iload_n hx hb dX2_isDigit_2 rfl (lv_at hl 0 rfl) ?_
  refine lv_icmp_gt (tgt := 16) hx hb dX2_isDigit_3 (by decide) (fun c49 => ?_) (fun c49 => ?_)
  · replace hf := (if_pos c49).symm.trans hf
    refine lv_iconst (v := 0) hx hb dX2_isDigit_16 (by decide) ?_
    exact tX2_isDigit_17 X hr hlk 0 hf H locs ls hw (lv_sub hl [] rfl)
  · replace hf := (if_neg c49).symm.trans hf
    refine lv_iload_n hx hb dX2_isDigit_6 rfl (lv_at hl 0 rfl) ?_
    refine lv_bipush (v := 57) hx hb dX2_isDigit_7 (by decide) ?_
    refine lv_icmp_gt (tgt := 16) hx hb dX2_isDigit_9 (by decide) (fun c52 => ?_) (fun c52 => ?_)
    · replace hf := (if_pos c52).symm.trans hf
      refine lv_iconst (v := 0) hx hb dX2_isDigit_16 (by decide) ?_
      exact tX2_isDigit_17 X hr hlk 0 hf H locs ls hw (lv_sub hl [] rfl)
    · replace hf := (if_neg c52).symm.trans hf
      refine lv_iconst (v := 1) hx hb dX2_isDigit_12 (by decide) ?_
      refine lv_goto (tgt := 17) hx hb dX2_isDigit_13 (by decide) ?_
      exact tX2_isDigit_17 X hr hlk 1 hf H locs ls hw (lv_sub hl [] rfl)

abbrev rmX2_isSmallLetter : Room := { frames := 0, cells := 0, slots := 0, locals := 0 }
theorem hd_X2_isSmallLetter : Hd yX2_isSmallLetter RX2 1 := by decide +kernel
def gX2_isSmallLetter_17   (y0 : Int32) : Option (Int32) := (zr y0).bind fun v54 => some (v54)
def gX2_isSmallLetter (x0 : Int32) : Option (Int32) := if x0 < (97 : Int32) then (gX2_isSmallLetter_17 0) else (if 122 < x0 then (gX2_isSmallLetter_17 0) else (gX2_isSmallLetter_17 1))
set_option maxHeartbeats 4000000 in
set_option maxRecDepth 100000 in
theorem tX2_isSmallLetter_17 {p : Program} {l : Launch} {e : Env} {s : State} {m : MethodId} {args : Array Value} {below : List Frame} {meth : Method} {c : Code} {E : EE} {b : Nat} {MC : Mem} {TC : Int64} {MM : Mem} {TM : Int64} {res : Int32} (X : CX E p s m args c cX2_isSmallLetter 1 RX2) (hr : meth.sig.returnType = (some .boolean)) (hlk : meth.locks = false)    : ∀ (y0 : Int32), gX2_isSmallLetter_17 y0 = some res → ∀ (H : Heap) (locs : List Loc) (ls : Array Slot), WW E b MC TC MM TM s H locs → lv_has ls 1 [] → W p l e rmX2_isSmallLetter s m args below meth c H locs 0 0 (MQ below (va_Qi (fun x (_ : Unit) => x = res) (fun _ t => PW E b MC TC MM TM t) (AA b)) args s 0 0 (AA b)) (F0 m 17 ls [.int y0]) := by
  have hx := X.1
  have hb := X.2.1
  intro y0 hf H locs ls hw hl
  rw [gX2_isSmallLetter_17] at hf
  obtain ⟨v54, q55, hf⟩ := ob hf
  obtain ⟨eq55, q55⟩ := zr_s q55
  rw [eq55]
  replace hf := Option.some.inj hf
  subst hf
  exact eZ X hw q55 hr hlk dX2_isSmallLetter_17
set_option maxHeartbeats 4000000 in
set_option maxRecDepth 100000 in
theorem ctX2_isSmallLetter (l : Launch) (E : EE) (b : Nat) {MC : Mem} {TC : Int64} {MM : Mem} {TM : Int64} {x0 : Int32} {res : Int32}  (hf : gX2_isSmallLetter x0 = some res) : MetI l E b yX2_isSmallLetter (.code yX2_isSmallLetter cX2_isSmallLetter 1 (some .boolean)) rmX2_isSmallLetter [.int x0] MC TC MM TM res MC TC MM TM := by
  refine Met.ofW (cc := cX2_isSmallLetter) (maxL := 1) (ret := (some .boolean)) (by decide) rfl ?_
  intro p e s m args below meth c s₁ B hml hv
  obtain ⟨rfl, hP, hK⟩ := hv
  have hx := B.exec
  have hb := B.bytes
  have X : CX E p s m _ c cX2_isSmallLetter 1 RX2 := ⟨hx, hb, hml, findClass_of_methodNamed B.named, fun w h => atoms_spec (ws := _ :: wt) B.pre w (List.mem_cons_of_mem _ h), hK⟩
  have hr := B.returns
  have hlk := B.notSynchronized
  have hw : WW E b MC TC MM TM s s.heap [] := ⟨hP, va_S.rf⟩
  have hl := lv_entry ([.int x0]) (n := 1) (Nat.le_of_ble_eq_true rfl)
  rw [lg_entry_eq]
  generalize (lg_sl ([.int x0]) ++ List.replicate (1 - (lg_sl ([.int x0])).length) Slot.unset).toArray = ls at hl ⊢
  have hl : lv_has ls 1 [(0, .int x0)] := hl
  obtain ⟨H, hH⟩ : ∃ H, H = s.heap := ⟨_, rfl⟩
  obtain ⟨locs, hL⟩ : ∃ L : List Loc, L = [] := ⟨_, rfl⟩
  rw [← hH, ← hL] at hw
  suffices hg : W p l e rmX2_isSmallLetter s m _ below meth c H locs 0 0 (MQ below (va_Qi (fun x (_ : Unit) => x = res) (fun _ t => PW E b MC TC MM TM t) (AA b)) _ s 0 0 (AA b)) (F0 m 0 ls []) by rw [hH, hL] at hg; exact hg
  clear hH hL
  rw [gX2_isSmallLetter] at hf
  refine lv_bipush (v := 97) hx hb dX2_isSmallLetter_0 (by decide) ?_
  refine lv_iload_n hx hb dX2_isSmallLetter_2 rfl (lv_at hl 0 rfl) ?_
  refine lv_icmp_gt (tgt := 16) hx hb dX2_isSmallLetter_3 (by decide) (fun c53 => ?_) (fun c53 => ?_)
  · replace hf := (if_pos c53).symm.trans hf
    refine lv_iconst (v := 0) hx hb dX2_isSmallLetter_16 (by decide) ?_
    exact tX2_isSmallLetter_17 X hr hlk 0 hf H locs ls hw (lv_sub hl [] rfl)
  · replace hf := (if_neg c53).symm.trans hf
    refine lv_iload_n hx hb dX2_isSmallLetter_6 rfl (lv_at hl 0 rfl) ?_
    refine lv_bipush (v := 122) hx hb dX2_isSmallLetter_7 (by decide) ?_
    refine lv_icmp_gt (tgt := 16) hx hb dX2_isSmallLetter_9 (by decide) (fun c56 => ?_) (fun c56 => ?_)
    · replace hf := (if_pos c56).symm.trans hf
      refine lv_iconst (v := 0) hx hb dX2_isSmallLetter_16 (by decide) ?_
      exact tX2_isSmallLetter_17 X hr hlk 0 hf H locs ls hw (lv_sub hl [] rfl)
    · replace hf := (if_neg c56).symm.trans hf
      refine lv_iconst (v := 1) hx hb dX2_isSmallLetter_12 (by decide) ?_
      refine lv_goto (tgt := 17) hx hb dX2_isSmallLetter_13 (by decide) ?_
      exact tX2_isSmallLetter_17 X hr hlk 1 hf H locs ls hw (lv_sub hl [] rfl)

abbrev rmX2_scanLetters : Room := { frames := 1, cells := 0, slots := 0, locals := 20 }
theorem hd_X2_scanLetters : Hd yX2_scanLetters RX2 0 := by decide +kernel
def gX2_scanLetters_80   (y0 : Int32) (M : Mem) : Option (Mem) := (some (us M 1 4 y0)).bind fun M62 => some (M62)
def gX2_scanLetters_61   (M : Mem) : Option (Mem) := if ((M 1 2) - (M 1 3)) = 1 then (gX2_scanLetters_80 1 M) else (gX2_scanLetters_80 4 M)
def gX2_scanLetters_16   : Nat → Mem → Option (Mem)
  | 0, _ => none
  | n + 1, M => if (M 2 1) ≤ (M 1 2) then (gX2_scanLetters_61 M) else ((ldA 120 (M 3) (M 1 2)).bind fun v63 => (gX2_isSmallLetter v63).bind fun u65 => if u65 = 0 then (gX2_scanLetters_61 M) else ((some (us M 1 2 ((M 1 2) + 1))).bind fun M68 => (gX2_scanLetters_16 n) M68))
def gX2_scanLetters (M : Mem) : Option (Mem) := (ldA 120 (M 3) (M 1 3)).bind fun v57 => (some (us M 1 5 v57)).bind fun M59 => gX2_scanLetters_16 FU M59
set_option maxHeartbeats 4000000 in
set_option maxRecDepth 100000 in
theorem tX2_scanLetters_80 {p : Program} {l : Launch} {e : Env} {s : State} {m : MethodId} {args : Array Value} {below : List Frame} {meth : Method} {c : Code} {E : EE} {b : Nat} {TC : Int64} {MM : Mem} {TM : Int64} {res : Mem} (X : CX E p s m args c cX2_scanLetters 1 RX2) (hr : meth.sig.returnType = none) (hlk : meth.locks = false)    : ∀ (y0 : Int32) (M : Mem), gX2_scanLetters_80 y0 M = some res → ∀ (H : Heap) (locs : List Loc) (ls : Array Slot), WW E b M TC MM TM s H locs → lv_has ls 1 [] → W p l e rmX2_scanLetters s m args below meth c H locs 0 0 (MQ below (va_Qv (fun (_ : Unit) => True) (fun _ t => PW E b res TC MM TM t) (AA b)) args s 0 0 (AA b)) (F0 m 80 ls [.int y0, .ref (b + 1)]) := by
  have hx := X.1
  have hb := X.2.1
  intro y0 M hf H locs ls hw hl
  rw [gX2_scanLetters_80] at hf
  obtain ⟨M62, eM62, hf⟩ := ob hf
  refine pt_X2_4 X hw kk_1 mw_142 dX2_scanLetters_80 (fun H locs hw => ?_)
  rw [Option.some.inj eM62] at hw
  replace hf := Option.some.inj hf
  subst hf
  exact eV X hw hr hlk dX2_scanLetters_83
set_option maxHeartbeats 4000000 in
set_option maxRecDepth 100000 in
theorem tX2_scanLetters_61 {p : Program} {l : Launch} {e : Env} {s : State} {m : MethodId} {args : Array Value} {below : List Frame} {meth : Method} {c : Code} {E : EE} {b : Nat} {TC : Int64} {MM : Mem} {TM : Int64} {res : Mem} (X : CX E p s m args c cX2_scanLetters 1 RX2) (hr : meth.sig.returnType = none) (hlk : meth.locks = false)    : ∀ (M : Mem), gX2_scanLetters_61 M = some res → ∀ (H : Heap) (locs : List Loc) (ls : Array Slot), WW E b M TC MM TM s H locs → lv_has ls 1 [(0, .ref (b + 1))] → W p l e rmX2_scanLetters s m args below meth c H locs 0 0 (MQ below (va_Qv (fun (_ : Unit) => True) (fun _ t => PW E b res TC MM TM t) (AA b)) args s 0 0 (AA b)) (F0 m 61 ls []) := by
  have hx := X.1
  have hb := X.2.1
  intro M hf H locs ls hw hl
  rw [gX2_scanLetters_61] at hf
  refine lv_aload_n hx hb dX2_scanLetters_61 rfl (lv_at hl 0 rfl) ?_
  refine lv_aload_n hx hb dX2_scanLetters_62 rfl (lv_at hl 0 rfl) ?_
  refine gt_X2 X hw 2 kk_1 rfl (by decide) mw_140 rfl dX2_scanLetters_63 ?_
  refine lv_aload_n hx hb dX2_scanLetters_66 rfl (lv_at hl 0 rfl) ?_
  refine gt_X2 X hw 3 kk_1 rfl (by decide) mw_141 rfl dX2_scanLetters_67 ?_
  refine lv_isub hx hb dX2_scanLetters_70 ?_
  refine lv_iconst (v := 1) hx hb dX2_scanLetters_71 (by decide) ?_
  refine lv_icmp_ne (tgt := 79) hx hb dX2_scanLetters_72 (by decide) (fun c61 => ?_) (fun c61 => ?_)
  · replace hf := (if_neg c61).symm.trans hf
    refine lv_iconst (v := 4) hx hb dX2_scanLetters_79 (by decide) ?_
    exact tX2_scanLetters_80 X hr hlk 4 M hf H locs ls hw (lv_sub hl [] rfl)
  · replace hf := (if_pos c61).symm.trans hf
    refine lv_iconst (v := 1) hx hb dX2_scanLetters_75 (by decide) ?_
    refine lv_goto (tgt := 80) hx hb dX2_scanLetters_76 (by decide) ?_
    exact tX2_scanLetters_80 X hr hlk 1 M hf H locs ls hw (lv_sub hl [] rfl)
set_option maxHeartbeats 4000000 in
set_option maxRecDepth 100000 in
theorem tX2_scanLetters_16 {p : Program} {l : Launch} {e : Env} {s : State} {m : MethodId} {args : Array Value} {below : List Frame} {meth : Method} {c : Code} {E : EE} {b : Nat} {TC : Int64} {MM : Mem} {TM : Int64} {res : Mem} (X : CX E p s m args c cX2_scanLetters 1 RX2) (hr : meth.sig.returnType = none) (hlk : meth.locks = false)    : ∀ (n : Nat) (M : Mem), gX2_scanLetters_16 n M = some res → ∀ (H : Heap) (locs : List Loc) (ls : Array Slot), WW E b M TC MM TM s H locs → lv_has ls 1 [(0, .ref (b + 1))] → W p l e rmX2_scanLetters s m args below meth c H locs 0 0 (MQ below (va_Qv (fun (_ : Unit) => True) (fun _ t => PW E b res TC MM TM t) (AA b)) args s 0 0 (AA b)) (F0 m 16 ls []) := by
  have hx := X.1
  have hb := X.2.1
  intro n
  induction n with
  | zero =>
    intro M hf
    cases (show (none : Option (Mem)) = some res from hf)
  | succ n ih =>
    intro M hf H locs ls hw hl
    rw [gX2_scanLetters_16] at hf
    refine lv_aload_n hx hb dX2_scanLetters_16 rfl (lv_at hl 0 rfl) ?_
    refine gt_X2 X hw 2 kk_1 rfl (by decide) mw_140 rfl dX2_scanLetters_17 ?_
    refine lv_aload_n hx hb dX2_scanLetters_20 rfl (lv_at hl 0 rfl) ?_
    refine gt_X2 X hw 0 kk_1 rfl (by decide) mw_136 rfl dX2_scanLetters_21 ?_
    refine gt_X4 X hw 1 kk_2 rfl (by decide) mw_89 rfl dX2_scanLetters_24 ?_
    refine lv_icmp_ge (tgt := 61) hx hb dX2_scanLetters_27 (by decide) (fun c60 => ?_) (fun c60 => ?_)
    · replace hf := (if_pos c60).symm.trans hf
      exact tX2_scanLetters_61 X hr hlk M hf H locs ls hw (lv_sub hl [0] rfl)
    · replace hf := (if_neg c60).symm.trans hf
      refine lv_aload_n hx hb dX2_scanLetters_30 rfl (lv_at hl 0 rfl) ?_
      refine gt_X2 X hw 0 kk_1 rfl (by decide) mw_136 rfl dX2_scanLetters_31 ?_
      refine gt_X4 X hw 0 kk_2 rfl (by decide) mw_87 rfl dX2_scanLetters_34 ?_
      refine lv_aload_n hx hb dX2_scanLetters_37 rfl (lv_at hl 0 rfl) ?_
      refine gt_X2 X hw 2 kk_1 rfl (by decide) mw_140 rfl dX2_scanLetters_38 ?_
      obtain ⟨v63, q64, hf⟩ := ob hf
      refine aldC X hw kdv_3 q64 dX2_scanLetters_41 ?_
      obtain ⟨u65, q66, hf⟩ := ob hf
      refine cSi (As := [.int v63]) X hw (ctX2_isSmallLetter l E b  q66) ⟨mw_339, mw_340, mw_53, mw_341⟩ hd_X2_isSmallLetter ⟨Nat.le_of_ble_eq_true rfl, Nat.le_of_ble_eq_true rfl, rfl, rfl⟩ rfl hl.1 rfl (Nat.le_of_ble_eq_true rfl) dX2_scanLetters_42 (fun H locs hw => ?_)
      refine lv_if_eq (tgt := 61) hx hb dX2_scanLetters_45 (by decide) (fun c67 => ?_) (fun c67 => ?_)
      · replace hf := (if_pos c67).symm.trans hf
        exact tX2_scanLetters_61 X hr hlk M hf H locs ls hw (lv_sub hl [0] rfl)
      · replace hf := (if_neg c67).symm.trans hf
        refine lv_aload_n hx hb dX2_scanLetters_48 rfl (lv_at hl 0 rfl) ?_
        refine lv_dup hx hb dX2_scanLetters_49 rfl ?_
        refine gt_X2 X hw 2 kk_1 rfl (by decide) mw_140 rfl dX2_scanLetters_50 ?_
        refine lv_iconst (v := 1) hx hb dX2_scanLetters_53 (by decide) ?_
        refine lv_iadd hx hb dX2_scanLetters_54 ?_
        obtain ⟨M68, eM68, hf⟩ := ob hf
        refine pt_X2_2 X hw kk_1 mw_140 dX2_scanLetters_55 (fun H locs hw => ?_)
        rw [Option.some.inj eM68] at hw
        refine lv_goto (tgt := 16) hx hb dX2_scanLetters_58 (by decide) ?_
        exact ih M68 hf H locs ls hw (lv_sub hl [0] rfl)
set_option maxHeartbeats 4000000 in
set_option maxRecDepth 100000 in
theorem ctX2_scanLetters (l : Launch) (E : EE) (b : Nat) {TC : Int64} {MM : Mem} {TM : Int64} {M : Mem} {res : Mem}  (hf : gX2_scanLetters M = some res) : MetV l E b yX2_scanLetters (.code yX2_scanLetters cX2_scanLetters 1 none) rmX2_scanLetters [.ref (b + 1)] M TC MM TM res TC MM TM := by
  refine Met.ofW (cc := cX2_scanLetters) (maxL := 1) (ret := none) (by decide) rfl ?_
  intro p e s m args below meth c s₁ B hml hv
  obtain ⟨rfl, hP, hK⟩ := hv
  have hx := B.exec
  have hb := B.bytes
  have X : CX E p s m _ c cX2_scanLetters 1 RX2 := ⟨hx, hb, hml, findClass_of_methodNamed B.named, fun w h => atoms_spec (ws := _ :: wt) B.pre w (List.mem_cons_of_mem _ h), hK⟩
  have hr := B.returns
  have hlk := B.notSynchronized
  have hw : WW E b M TC MM TM s s.heap [] := ⟨hP, va_S.rf⟩
  have hl := lv_entry ([.ref (b + 1)]) (n := 1) (Nat.le_of_ble_eq_true rfl)
  rw [lg_entry_eq]
  generalize (lg_sl ([.ref (b + 1)]) ++ List.replicate (1 - (lg_sl ([.ref (b + 1)])).length) Slot.unset).toArray = ls at hl ⊢
  have hl : lv_has ls 1 [(0, .ref (b + 1))] := hl
  obtain ⟨H, hH⟩ : ∃ H, H = s.heap := ⟨_, rfl⟩
  obtain ⟨locs, hL⟩ : ∃ L : List Loc, L = [] := ⟨_, rfl⟩
  rw [← hH, ← hL] at hw
  suffices hg : W p l e rmX2_scanLetters s m _ below meth c H locs 0 0 (MQ below (va_Qv (fun (_ : Unit) => True) (fun _ t => PW E b res TC MM TM t) (AA b)) _ s 0 0 (AA b)) (F0 m 0 ls []) by rw [hH, hL] at hg; exact hg
  clear hH hL
  rw [gX2_scanLetters] at hf
  refine lv_aload_n hx hb dX2_scanLetters_0 rfl (lv_at hl 0 rfl) ?_
  refine lv_aload_n hx hb dX2_scanLetters_1 rfl (lv_at hl 0 rfl) ?_
  refine gt_X2 X hw 0 kk_1 rfl (by decide) mw_136 rfl dX2_scanLetters_2 ?_
  refine gt_X4 X hw 0 kk_2 rfl (by decide) mw_87 rfl dX2_scanLetters_5 ?_
  refine lv_aload_n hx hb dX2_scanLetters_8 rfl (lv_at hl 0 rfl) ?_
  refine gt_X2 X hw 3 kk_1 rfl (by decide) mw_141 rfl dX2_scanLetters_9 ?_
  obtain ⟨v57, q58, hf⟩ := ob hf
  refine aldC X hw kdv_3 q58 dX2_scanLetters_12 ?_
  obtain ⟨M59, eM59, hf⟩ := ob hf
  refine pt_X2_5 X hw kk_1 mw_143 dX2_scanLetters_13 (fun H locs hw => ?_)
  rw [Option.some.inj eM59] at hw
  exact tX2_scanLetters_16 X hr hlk FU M59 hf H locs ls hw (lv_sub hl [0] rfl)

abbrev rmX2_scanNumber : Room := { frames := 1, cells := 0, slots := 0, locals := 21 }
theorem hd_X2_scanNumber : Hd yX2_scanNumber RX2 0 := by decide +kernel
def gX2_scanNumber_137   (y0 : Int32) (M : Mem) : Option (Mem) := (some (us M 1 4 y0)).bind fun M75 => some (M75)
def gX2_scanNumber_132   (M : Mem) : Option (Mem) := gX2_scanNumber_137 4 M
def gX2_scanNumber_117   (y0 : Int32) (M : Mem) : Option (Mem) := if y0 = 0 then (if (M 1 5) ≤ 99 then (gX2_scanNumber_137 2 M) else (gX2_scanNumber_132 M)) else (gX2_scanNumber_132 M)
def gX2_scanNumber_116   (M : Mem) : Option (Mem) := gX2_scanNumber_117 0 M
def gX2_scanNumber_82   (M : Mem) : Option (Mem) := (ldA 120 (M 3) (M 1 3)).bind fun v71 => if v71 = 48 then (if ((M 1 2) - (M 1 3)) ≤ 1 then (gX2_scanNumber_116 M) else (gX2_scanNumber_117 1 M)) else (gX2_scanNumber_116 M)
def gX2_scanNumber_5   : Nat → Mem → Option (Mem)
  | 0, _ => none
  | n + 1, M => if (M 2 1) ≤ (M 1 2) then (gX2_scanNumber_82 M) else ((ldA 120 (M 3) (M 1 2)).bind fun v78 => (gX2_isDigit v78).bind fun u80 => if u80 = 0 then (gX2_scanNumber_82 M) else ((ldA 120 (M 3) (M 1 2)).bind fun v83 => (some (mn ((((M 1 5) * 10) + v83) - 48) 100)).bind fun z85 => (some (us M 1 5 z85)).bind fun M86 => (some (us M86 1 2 ((M86 1 2) + 1))).bind fun M87 => (gX2_scanNumber_5 n) M87))
def gX2_scanNumber (M : Mem) : Option (Mem) := (some (us M 1 5 0)).bind fun M69 => gX2_scanNumber_5 FU M69
set_option maxHeartbeats 4000000 in
set_option maxRecDepth 100000 in
theorem tX2_scanNumber_137 {p : Program} {l : Launch} {e : Env} {s : State} {m : MethodId} {args : Array Value} {below : List Frame} {meth : Method} {c : Code} {E : EE} {b : Nat} {TC : Int64} {MM : Mem} {TM : Int64} {res : Mem} (X : CX E p s m args c cX2_scanNumber 2 RX2) (hr : meth.sig.returnType = none) (hlk : meth.locks = false)    : ∀ (y0 : Int32) (M : Mem), gX2_scanNumber_137 y0 M = some res → ∀ (H : Heap) (locs : List Loc) (ls : Array Slot), WW E b M TC MM TM s H locs → lv_has ls 2 [] → W p l e rmX2_scanNumber s m args below meth c H locs 0 0 (MQ below (va_Qv (fun (_ : Unit) => True) (fun _ t => PW E b res TC MM TM t) (AA b)) args s 0 0 (AA b)) (F0 m 137 ls [.int y0, .ref (b + 1)]) := by
  have hx := X.1
  have hb := X.2.1
  intro y0 M hf H locs ls hw hl
  rw [gX2_scanNumber_137] at hf
  obtain ⟨M75, eM75, hf⟩ := ob hf
  refine pt_X2_4 X hw kk_1 mw_142 dX2_scanNumber_137 (fun H locs hw => ?_)
  rw [Option.some.inj eM75] at hw
  replace hf := Option.some.inj hf
  subst hf
  exact eV X hw hr hlk dX2_scanNumber_140
set_option maxHeartbeats 4000000 in
set_option maxRecDepth 100000 in
theorem tX2_scanNumber_132 {p : Program} {l : Launch} {e : Env} {s : State} {m : MethodId} {args : Array Value} {below : List Frame} {meth : Method} {c : Code} {E : EE} {b : Nat} {TC : Int64} {MM : Mem} {TM : Int64} {res : Mem} (X : CX E p s m args c cX2_scanNumber 2 RX2) (hr : meth.sig.returnType = none) (hlk : meth.locks = false)    : ∀ (M : Mem), gX2_scanNumber_132 M = some res → ∀ (H : Heap) (locs : List Loc) (ls : Array Slot), WW E b M TC MM TM s H locs → lv_has ls 2 [] → W p l e rmX2_scanNumber s m args below meth c H locs 0 0 (MQ below (va_Qv (fun (_ : Unit) => True) (fun _ t => PW E b res TC MM TM t) (AA b)) args s 0 0 (AA b)) (F0 m 132 ls [.ref (b + 1)]) := by
  have hx := X.1
  have hb := X.2.1
  intro M hf H locs ls hw hl
  rw [gX2_scanNumber_132] at hf
  refine lv_iconst (v := 4) hx hb dX2_scanNumber_132 (by decide) ?_
  refine lv_goto (tgt := 137) hx hb dX2_scanNumber_133 (by decide) ?_
  exact tX2_scanNumber_137 X hr hlk 4 M hf H locs ls hw (lv_sub hl [] rfl)
set_option maxHeartbeats 4000000 in
set_option maxRecDepth 100000 in
theorem tX2_scanNumber_117 {p : Program} {l : Launch} {e : Env} {s : State} {m : MethodId} {args : Array Value} {below : List Frame} {meth : Method} {c : Code} {E : EE} {b : Nat} {TC : Int64} {MM : Mem} {TM : Int64} {res : Mem} (X : CX E p s m args c cX2_scanNumber 2 RX2) (hr : meth.sig.returnType = none) (hlk : meth.locks = false)    : ∀ (y0 : Int32) (M : Mem), gX2_scanNumber_117 y0 M = some res → ∀ (H : Heap) (locs : List Loc) (ls : Array Slot), WW E b M TC MM TM s H locs → lv_has ls 2 [(0, .ref (b + 1))] → W p l e rmX2_scanNumber s m args below meth c H locs 0 0 (MQ below (va_Qv (fun (_ : Unit) => True) (fun _ t => PW E b res TC MM TM t) (AA b)) args s 0 0 (AA b)) (F0 m 117 ls [.int y0]) := by
  have hx := X.1
  have hb := X.2.1
  intro y0 M hf H locs ls hw hl
  rw [gX2_scanNumber_117] at hf
  refine lv_istore_n (lv' := [(1, .int y0), (0, .ref (b + 1))]) hx hb dX2_scanNumber_117 rfl hl (by decide) rfl (fun ls hl => ?_)
  refine lv_aload_n hx hb dX2_scanNumber_118 rfl (lv_at hl 1 rfl) ?_
  refine lv_iload_n hx hb dX2_scanNumber_119 rfl (lv_at hl 0 rfl) ?_
  refine lv_if_ne (tgt := 132) hx hb dX2_scanNumber_120 (by decide) (fun c74 => ?_) (fun c74 => ?_)
  · replace hf := (if_neg c74).symm.trans hf
    exact tX2_scanNumber_132 X hr hlk M hf H locs ls hw (lv_sub hl [] rfl)
  · replace hf := (if_pos c74).symm.trans hf
    refine lv_aload_n hx hb dX2_scanNumber_123 rfl (lv_at hl 1 rfl) ?_
    refine gt_X2 X hw 5 kk_1 rfl (by decide) mw_143 rfl dX2_scanNumber_124 ?_
    refine lv_bipush (v := 99) hx hb dX2_scanNumber_127 (by decide) ?_
    refine lv_icmp_le (tgt := 136) hx hb dX2_scanNumber_129 (by decide) (fun c76 => ?_) (fun c76 => ?_)
    · replace hf := (if_pos c76).symm.trans hf
      refine lv_iconst (v := 2) hx hb dX2_scanNumber_136 (by decide) ?_
      exact tX2_scanNumber_137 X hr hlk 2 M hf H locs ls hw (lv_sub hl [] rfl)
    · replace hf := (if_neg c76).symm.trans hf
      exact tX2_scanNumber_132 X hr hlk M hf H locs ls hw (lv_sub hl [] rfl)
set_option maxHeartbeats 4000000 in
set_option maxRecDepth 100000 in
theorem tX2_scanNumber_116 {p : Program} {l : Launch} {e : Env} {s : State} {m : MethodId} {args : Array Value} {below : List Frame} {meth : Method} {c : Code} {E : EE} {b : Nat} {TC : Int64} {MM : Mem} {TM : Int64} {res : Mem} (X : CX E p s m args c cX2_scanNumber 2 RX2) (hr : meth.sig.returnType = none) (hlk : meth.locks = false)    : ∀ (M : Mem), gX2_scanNumber_116 M = some res → ∀ (H : Heap) (locs : List Loc) (ls : Array Slot), WW E b M TC MM TM s H locs → lv_has ls 2 [(0, .ref (b + 1))] → W p l e rmX2_scanNumber s m args below meth c H locs 0 0 (MQ below (va_Qv (fun (_ : Unit) => True) (fun _ t => PW E b res TC MM TM t) (AA b)) args s 0 0 (AA b)) (F0 m 116 ls []) := by
  have hx := X.1
  have hb := X.2.1
  intro M hf H locs ls hw hl
  rw [gX2_scanNumber_116] at hf
  refine lv_iconst (v := 0) hx hb dX2_scanNumber_116 (by decide) ?_
  exact tX2_scanNumber_117 X hr hlk 0 M hf H locs ls hw (lv_sub hl [0] rfl)
set_option maxHeartbeats 4000000 in
set_option maxRecDepth 100000 in
theorem tX2_scanNumber_82 {p : Program} {l : Launch} {e : Env} {s : State} {m : MethodId} {args : Array Value} {below : List Frame} {meth : Method} {c : Code} {E : EE} {b : Nat} {TC : Int64} {MM : Mem} {TM : Int64} {res : Mem} (X : CX E p s m args c cX2_scanNumber 2 RX2) (hr : meth.sig.returnType = none) (hlk : meth.locks = false)    : ∀ (M : Mem), gX2_scanNumber_82 M = some res → ∀ (H : Heap) (locs : List Loc) (ls : Array Slot), WW E b M TC MM TM s H locs → lv_has ls 2 [(0, .ref (b + 1))] → W p l e rmX2_scanNumber s m args below meth c H locs 0 0 (MQ below (va_Qv (fun (_ : Unit) => True) (fun _ t => PW E b res TC MM TM t) (AA b)) args s 0 0 (AA b)) (F0 m 82 ls []) := by
  have hx := X.1
  have hb := X.2.1
  intro M hf H locs ls hw hl
  rw [gX2_scanNumber_82] at hf
  refine lv_aload_n hx hb dX2_scanNumber_82 rfl (lv_at hl 0 rfl) ?_
  refine gt_X2 X hw 0 kk_1 rfl (by decide) mw_136 rfl dX2_scanNumber_83 ?_
  refine gt_X4 X hw 0 kk_2 rfl (by decide) mw_87 rfl dX2_scanNumber_86 ?_
  refine lv_aload_n hx hb dX2_scanNumber_89 rfl (lv_at hl 0 rfl) ?_
  refine gt_X2 X hw 3 kk_1 rfl (by decide) mw_141 rfl dX2_scanNumber_90 ?_
  obtain ⟨v71, q72, hf⟩ := ob hf
  refine aldC X hw kdv_3 q72 dX2_scanNumber_93 ?_
  refine lv_bipush (v := 48) hx hb dX2_scanNumber_94 (by decide) ?_
  refine lv_icmp_ne (tgt := 116) hx hb dX2_scanNumber_96 (by decide) (fun c73 => ?_) (fun c73 => ?_)
  · replace hf := (if_neg c73).symm.trans hf
    exact tX2_scanNumber_116 X hr hlk M hf H locs ls hw (lv_sub hl [0] rfl)
  · replace hf := (if_pos c73).symm.trans hf
    refine lv_aload_n hx hb dX2_scanNumber_99 rfl (lv_at hl 0 rfl) ?_
    refine gt_X2 X hw 2 kk_1 rfl (by decide) mw_140 rfl dX2_scanNumber_100 ?_
    refine lv_aload_n hx hb dX2_scanNumber_103 rfl (lv_at hl 0 rfl) ?_
    refine gt_X2 X hw 3 kk_1 rfl (by decide) mw_141 rfl dX2_scanNumber_104 ?_
    refine lv_isub hx hb dX2_scanNumber_107 ?_
    refine lv_iconst (v := 1) hx hb dX2_scanNumber_108 (by decide) ?_
    refine lv_icmp_le (tgt := 116) hx hb dX2_scanNumber_109 (by decide) (fun c77 => ?_) (fun c77 => ?_)
    · replace hf := (if_pos c77).symm.trans hf
      exact tX2_scanNumber_116 X hr hlk M hf H locs ls hw (lv_sub hl [0] rfl)
    · replace hf := (if_neg c77).symm.trans hf
      refine lv_iconst (v := 1) hx hb dX2_scanNumber_112 (by decide) ?_
      refine lv_goto (tgt := 117) hx hb dX2_scanNumber_113 (by decide) ?_
      exact tX2_scanNumber_117 X hr hlk 1 M hf H locs ls hw (lv_sub hl [0] rfl)
set_option maxHeartbeats 4000000 in
set_option maxRecDepth 100000 in
theorem tX2_scanNumber_5 {p : Program} {l : Launch} {e : Env} {s : State} {m : MethodId} {args : Array Value} {below : List Frame} {meth : Method} {c : Code} {E : EE} {b : Nat} {TC : Int64} {MM : Mem} {TM : Int64} {res : Mem} (X : CX E p s m args c cX2_scanNumber 2 RX2) (hr : meth.sig.returnType = none) (hlk : meth.locks = false)    : ∀ (n : Nat) (M : Mem), gX2_scanNumber_5 n M = some res → ∀ (H : Heap) (locs : List Loc) (ls : Array Slot), WW E b M TC MM TM s H locs → lv_has ls 2 [(0, .ref (b + 1))] → W p l e rmX2_scanNumber s m args below meth c H locs 0 0 (MQ below (va_Qv (fun (_ : Unit) => True) (fun _ t => PW E b res TC MM TM t) (AA b)) args s 0 0 (AA b)) (F0 m 5 ls []) := by
  have hx := X.1
  have hb := X.2.1
  intro n
  induction n with
  | zero =>
    intro M hf
    cases (show (none : Option (Mem)) = some res from hf)
  | succ n ih =>
    intro M hf H locs ls hw hl
    rw [gX2_scanNumber_5] at hf
    refine lv_aload_n hx hb dX2_scanNumber_5 rfl (lv_at hl 0 rfl) ?_
    refine gt_X2 X hw 2 kk_1 rfl (by decide) mw_140 rfl dX2_scanNumber_6 ?_
    refine lv_aload_n hx hb dX2_scanNumber_9 rfl (lv_at hl 0 rfl) ?_
    refine gt_X2 X hw 0 kk_1 rfl (by decide) mw_136 rfl dX2_scanNumber_10 ?_
    refine gt_X4 X hw 1 kk_2 rfl (by decide) mw_89 rfl dX2_scanNumber_13 ?_
    refine lv_icmp_ge (tgt := 82) hx hb dX2_scanNumber_16 (by decide) (fun c70 => ?_) (fun c70 => ?_)
    · replace hf := (if_pos c70).symm.trans hf
      exact tX2_scanNumber_82 X hr hlk M hf H locs ls hw (lv_sub hl [0] rfl)
    · replace hf := (if_neg c70).symm.trans hf
      refine lv_aload_n hx hb dX2_scanNumber_19 rfl (lv_at hl 0 rfl) ?_
      refine gt_X2 X hw 0 kk_1 rfl (by decide) mw_136 rfl dX2_scanNumber_20 ?_
      refine gt_X4 X hw 0 kk_2 rfl (by decide) mw_87 rfl dX2_scanNumber_23 ?_
      refine lv_aload_n hx hb dX2_scanNumber_26 rfl (lv_at hl 0 rfl) ?_
      refine gt_X2 X hw 2 kk_1 rfl (by decide) mw_140 rfl dX2_scanNumber_27 ?_
      obtain ⟨v78, q79, hf⟩ := ob hf
      refine aldC X hw kdv_3 q79 dX2_scanNumber_30 ?_
      obtain ⟨u80, q81, hf⟩ := ob hf
      refine cSi (As := [.int v78]) X hw (ctX2_isDigit l E b  q81) ⟨mw_346, mw_347, mw_53, mw_348⟩ hd_X2_isDigit ⟨Nat.le_of_ble_eq_true rfl, Nat.le_of_ble_eq_true rfl, rfl, rfl⟩ rfl hl.1 rfl (Nat.le_of_ble_eq_true rfl) dX2_scanNumber_31 (fun H locs hw => ?_)
      refine lv_if_eq (tgt := 82) hx hb dX2_scanNumber_34 (by decide) (fun c82 => ?_) (fun c82 => ?_)
      · replace hf := (if_pos c82).symm.trans hf
        exact tX2_scanNumber_82 X hr hlk M hf H locs ls hw (lv_sub hl [0] rfl)
      · replace hf := (if_neg c82).symm.trans hf
        refine lv_aload_n hx hb dX2_scanNumber_37 rfl (lv_at hl 0 rfl) ?_
        refine lv_aload_n hx hb dX2_scanNumber_38 rfl (lv_at hl 0 rfl) ?_
        refine gt_X2 X hw 5 kk_1 rfl (by decide) mw_143 rfl dX2_scanNumber_39 ?_
        refine lv_bipush (v := 10) hx hb dX2_scanNumber_42 (by decide) ?_
        refine lv_imul hx hb dX2_scanNumber_44 ?_
        refine lv_aload_n hx hb dX2_scanNumber_45 rfl (lv_at hl 0 rfl) ?_
        refine gt_X2 X hw 0 kk_1 rfl (by decide) mw_136 rfl dX2_scanNumber_46 ?_
        refine gt_X4 X hw 0 kk_2 rfl (by decide) mw_87 rfl dX2_scanNumber_49 ?_
        refine lv_aload_n hx hb dX2_scanNumber_52 rfl (lv_at hl 0 rfl) ?_
        refine gt_X2 X hw 2 kk_1 rfl (by decide) mw_140 rfl dX2_scanNumber_53 ?_
        obtain ⟨v83, q84, hf⟩ := ob hf
        refine aldC X hw kdv_3 q84 dX2_scanNumber_56 ?_
        refine lv_iadd hx hb dX2_scanNumber_57 ?_
        refine lv_bipush (v := 48) hx hb dX2_scanNumber_58 (by decide) ?_
        refine lv_isub hx hb dX2_scanNumber_60 ?_
        refine lv_bipush (v := 100) hx hb dX2_scanNumber_61 (by decide) ?_
        refine va_mmin hx hb (by rw [X.2.2.1]; exact hl.1.symm) X.2.2.2.1 (X.2.2.2.2.1 _ mw_353) (X.2.2.2.2.1 _ mw_354) (X.2.2.2.2.1 _ mw_62) (X.2.2.2.2.1 _ code_min) (Nat.le_of_ble_eq_true rfl) (Nat.le_of_ble_eq_true rfl) (Nat.zero_le _) (Nat.zero_le _) dX2_scanNumber_63 ?_
        refine lv_topi (fun z85 ez85 => ?_)
        replace hf := nmb hf ez85
        obtain ⟨M86, eM86, hf⟩ := ob hf
        refine pt_X2_5 X hw kk_1 mw_143 dX2_scanNumber_66 (fun H locs hw => ?_)
        rw [Option.some.inj eM86] at hw
        refine lv_aload_n hx hb dX2_scanNumber_69 rfl (lv_at hl 0 rfl) ?_
        refine lv_dup hx hb dX2_scanNumber_70 rfl ?_
        refine gt_X2 X hw 2 kk_1 rfl (by decide) mw_140 rfl dX2_scanNumber_71 ?_
        refine lv_iconst (v := 1) hx hb dX2_scanNumber_74 (by decide) ?_
        refine lv_iadd hx hb dX2_scanNumber_75 ?_
        obtain ⟨M87, eM87, hf⟩ := ob hf
        refine pt_X2_2 X hw kk_1 mw_140 dX2_scanNumber_76 (fun H locs hw => ?_)
        rw [Option.some.inj eM87] at hw
        refine lv_goto (tgt := 5) hx hb dX2_scanNumber_79 (by decide) ?_
        exact ih M87 hf H locs ls hw (lv_sub hl [0] rfl)
set_option maxHeartbeats 4000000 in
set_option maxRecDepth 100000 in
theorem ctX2_scanNumber (l : Launch) (E : EE) (b : Nat) {TC : Int64} {MM : Mem} {TM : Int64} {M : Mem} {res : Mem}  (hf : gX2_scanNumber M = some res) : MetV l E b yX2_scanNumber (.code yX2_scanNumber cX2_scanNumber 2 none) rmX2_scanNumber [.ref (b + 1)] M TC MM TM res TC MM TM := by
  refine Met.ofW (cc := cX2_scanNumber) (maxL := 2) (ret := none) (by decide) rfl ?_
  intro p e s m args below meth c s₁ B hml hv
  obtain ⟨rfl, hP, hK⟩ := hv
  have hx := B.exec
  have hb := B.bytes
  have X : CX E p s m _ c cX2_scanNumber 2 RX2 := ⟨hx, hb, hml, findClass_of_methodNamed B.named, fun w h => atoms_spec (ws := _ :: wt) B.pre w (List.mem_cons_of_mem _ h), hK⟩
  have hr := B.returns
  have hlk := B.notSynchronized
  have hw : WW E b M TC MM TM s s.heap [] := ⟨hP, va_S.rf⟩
  have hl := lv_entry ([.ref (b + 1)]) (n := 2) (Nat.le_of_ble_eq_true rfl)
  rw [lg_entry_eq]
  generalize (lg_sl ([.ref (b + 1)]) ++ List.replicate (2 - (lg_sl ([.ref (b + 1)])).length) Slot.unset).toArray = ls at hl ⊢
  have hl : lv_has ls 2 [(0, .ref (b + 1))] := hl
  obtain ⟨H, hH⟩ : ∃ H, H = s.heap := ⟨_, rfl⟩
  obtain ⟨locs, hL⟩ : ∃ L : List Loc, L = [] := ⟨_, rfl⟩
  rw [← hH, ← hL] at hw
  suffices hg : W p l e rmX2_scanNumber s m _ below meth c H locs 0 0 (MQ below (va_Qv (fun (_ : Unit) => True) (fun _ t => PW E b res TC MM TM t) (AA b)) _ s 0 0 (AA b)) (F0 m 0 ls []) by rw [hH, hL] at hg; exact hg
  clear hH hL
  rw [gX2_scanNumber] at hf
  refine lv_aload_n hx hb dX2_scanNumber_0 rfl (lv_at hl 0 rfl) ?_
  refine lv_iconst (v := 0) hx hb dX2_scanNumber_1 (by decide) ?_
  obtain ⟨M69, eM69, hf⟩ := ob hf
  refine pt_X2_5 X hw kk_1 mw_143 dX2_scanNumber_2 (fun H locs hw => ?_)
  rw [Option.some.inj eM69] at hw
  exact tX2_scanNumber_5 X hr hlk FU M69 hf H locs ls hw (lv_sub hl [0] rfl)

abbrev rmX2_advance : Room := { frames := 2, cells := 0, slots := 0, locals := 42 }
theorem hd_X2_advance : Hd yX2_advance RX2 0 := by decide +kernel
def gX2_advance_44   (M : Mem) : Option (Mem) := (some (us M 1 3 (M 1 2))).bind fun M89 => if (M89 1 2) < (M89 2 1) then ((ldA 120 (M89 3) (M89 1 2)).bind fun v91 => if v91 = 59 then ((some (us M89 1 2 ((M89 1 2) + 1))).bind fun M109 => (some (us M109 1 4 3)).bind fun M110 => some (M110)) else ((ldA 120 (M89 3) (M89 1 2)).bind fun v94 => (gX2_isSmallLetter v94).bind fun u96 => if u96 = 0 then ((ldA 120 (M89 3) (M89 1 2)).bind fun v99 => (gX2_isDigit v99).bind fun u101 => if u101 = 0 then ((some (us M89 1 4 4)).bind fun M104 => some (M104)) else ((gX2_scanNumber M89).bind fun u105 => some (u105))) else ((gX2_scanLetters M89).bind fun u107 => some (u107)))) else ((some (us M89 1 4 0)).bind fun M111 => some (M111))
def gX2_advance_0   : Nat → Mem → Option (Mem)
  | 0, _ => none
  | n + 1, M => if (M 2 1) ≤ (M 1 2) then (gX2_advance_44 M) else ((ldA 120 (M 3) (M 1 2)).bind fun v112 => if v112 = 32 then ((some (us M 1 2 ((M 1 2) + 1))).bind fun M115 => (gX2_advance_0 n) M115) else (gX2_advance_44 M))
def gX2_advance (M : Mem) : Option (Mem) := gX2_advance_0 FU M
set_option maxHeartbeats 4000000 in
set_option maxRecDepth 100000 in
theorem tX2_advance_44 {p : Program} {l : Launch} {e : Env} {s : State} {m : MethodId} {args : Array Value} {below : List Frame} {meth : Method} {c : Code} {E : EE} {b : Nat} {TC : Int64} {MM : Mem} {TM : Int64} {res : Mem} (X : CX E p s m args c cX2_advance 1 RX2) (hr : meth.sig.returnType = none) (hlk : meth.locks = false)    : ∀ (M : Mem), gX2_advance_44 M = some res → ∀ (H : Heap) (locs : List Loc) (ls : Array Slot), WW E b M TC MM TM s H locs → lv_has ls 1 [(0, .ref (b + 1))] → W p l e rmX2_advance s m args below meth c H locs 0 0 (MQ below (va_Qv (fun (_ : Unit) => True) (fun _ t => PW E b res TC MM TM t) (AA b)) args s 0 0 (AA b)) (F0 m 44 ls []) := by
  have hx := X.1
  have hb := X.2.1
  intro M hf H locs ls hw hl
  rw [gX2_advance_44] at hf
  refine lv_aload_n hx hb dX2_advance_44 rfl (lv_at hl 0 rfl) ?_
  refine lv_aload_n hx hb dX2_advance_45 rfl (lv_at hl 0 rfl) ?_
  refine gt_X2 X hw 2 kk_1 rfl (by decide) mw_140 rfl dX2_advance_46 ?_
  obtain ⟨M89, eM89, hf⟩ := ob hf
  refine pt_X2_3 X hw kk_1 mw_141 dX2_advance_49 (fun H locs hw => ?_)
  rw [Option.some.inj eM89] at hw
  refine lv_aload_n hx hb dX2_advance_52 rfl (lv_at hl 0 rfl) ?_
  refine gt_X2 X hw 2 kk_1 rfl (by decide) mw_140 rfl dX2_advance_53 ?_
  refine lv_aload_n hx hb dX2_advance_56 rfl (lv_at hl 0 rfl) ?_
  refine gt_X2 X hw 0 kk_1 rfl (by decide) mw_136 rfl dX2_advance_57 ?_
  refine gt_X4 X hw 1 kk_2 rfl (by decide) mw_89 rfl dX2_advance_60 ?_
  refine lv_icmp_lt (tgt := 74) hx hb dX2_advance_63 (by decide) (fun c90 => ?_) (fun c90 => ?_)
  · replace hf := (if_pos c90).symm.trans hf
    refine lv_aload_n hx hb dX2_advance_74 rfl (lv_at hl 0 rfl) ?_
    refine gt_X2 X hw 0 kk_1 rfl (by decide) mw_136 rfl dX2_advance_75 ?_
    refine gt_X4 X hw 0 kk_2 rfl (by decide) mw_87 rfl dX2_advance_78 ?_
    refine lv_aload_n hx hb dX2_advance_81 rfl (lv_at hl 0 rfl) ?_
    refine gt_X2 X hw 2 kk_1 rfl (by decide) mw_140 rfl dX2_advance_82 ?_
    obtain ⟨v91, q92, hf⟩ := ob hf
    refine aldC X hw kdv_3 q92 dX2_advance_85 ?_
    refine lv_bipush (v := 59) hx hb dX2_advance_86 (by decide) ?_
    refine lv_icmp_ne (tgt := 109) hx hb dX2_advance_88 (by decide) (fun c93 => ?_) (fun c93 => ?_)
    · replace hf := (if_neg c93).symm.trans hf
      refine lv_aload_n hx hb dX2_advance_109 rfl (lv_at hl 0 rfl) ?_
      refine gt_X2 X hw 0 kk_1 rfl (by decide) mw_136 rfl dX2_advance_110 ?_
      refine gt_X4 X hw 0 kk_2 rfl (by decide) mw_87 rfl dX2_advance_113 ?_
      refine lv_aload_n hx hb dX2_advance_116 rfl (lv_at hl 0 rfl) ?_
      refine gt_X2 X hw 2 kk_1 rfl (by decide) mw_140 rfl dX2_advance_117 ?_
      obtain ⟨v94, q95, hf⟩ := ob hf
      refine aldC X hw kdv_3 q95 dX2_advance_120 ?_
      obtain ⟨u96, q97, hf⟩ := ob hf
      refine cSi (As := [.int v94]) X hw (ctX2_isSmallLetter l E b  q97) ⟨mw_339, mw_340, mw_53, mw_341⟩ hd_X2_isSmallLetter ⟨Nat.le_of_ble_eq_true rfl, Nat.le_of_ble_eq_true rfl, rfl, rfl⟩ rfl hl.1 rfl (Nat.le_of_ble_eq_true rfl) dX2_advance_121 (fun H locs hw => ?_)
      refine lv_if_eq (tgt := 134) hx hb dX2_advance_124 (by decide) (fun c98 => ?_) (fun c98 => ?_)
      · replace hf := (if_pos c98).symm.trans hf
        refine lv_aload_n hx hb dX2_advance_134 rfl (lv_at hl 0 rfl) ?_
        refine gt_X2 X hw 0 kk_1 rfl (by decide) mw_136 rfl dX2_advance_135 ?_
        refine gt_X4 X hw 0 kk_2 rfl (by decide) mw_87 rfl dX2_advance_138 ?_
        refine lv_aload_n hx hb dX2_advance_141 rfl (lv_at hl 0 rfl) ?_
        refine gt_X2 X hw 2 kk_1 rfl (by decide) mw_140 rfl dX2_advance_142 ?_
        obtain ⟨v99, q100, hf⟩ := ob hf
        refine aldC X hw kdv_3 q100 dX2_advance_145 ?_
        obtain ⟨u101, q102, hf⟩ := ob hf
        refine cSi (As := [.int v99]) X hw (ctX2_isDigit l E b  q102) ⟨mw_346, mw_347, mw_53, mw_348⟩ hd_X2_isDigit ⟨Nat.le_of_ble_eq_true rfl, Nat.le_of_ble_eq_true rfl, rfl, rfl⟩ rfl hl.1 rfl (Nat.le_of_ble_eq_true rfl) dX2_advance_146 (fun H locs hw => ?_)
        refine lv_if_eq (tgt := 159) hx hb dX2_advance_149 (by decide) (fun c103 => ?_) (fun c103 => ?_)
        · replace hf := (if_pos c103).symm.trans hf
          refine lv_aload_n hx hb dX2_advance_159 rfl (lv_at hl 0 rfl) ?_
          refine lv_iconst (v := 4) hx hb dX2_advance_160 (by decide) ?_
          obtain ⟨M104, eM104, hf⟩ := ob hf
          refine pt_X2_4 X hw kk_1 mw_142 dX2_advance_161 (fun H locs hw => ?_)
          rw [Option.some.inj eM104] at hw
          replace hf := Option.some.inj hf
          subst hf
          exact eV X hw hr hlk dX2_advance_164
        · replace hf := (if_neg c103).symm.trans hf
          refine lv_aload_n hx hb dX2_advance_152 rfl (lv_at hl 0 rfl) ?_
          obtain ⟨u105, q106, hf⟩ := ob hf
          refine cVv (As := []) X hw (ctX2_scanNumber l E b  q106) ⟨mw_349, mw_351, mw_2, mw_53, mw_352⟩ hd_X2_scanNumber ⟨Nat.le_of_ble_eq_true rfl, Nat.le_of_ble_eq_true rfl, rfl, rfl⟩ (kdk kk_1 (by decide)) (ce_X2 E _ _ _ _ kk_1) (show vwCl[2]? = some (RX2, TX2, 8) from rfl) rfl hl.1 rfl (Nat.le_of_ble_eq_true rfl) dX2_advance_153 (fun H locs hw => ?_)
          refine lv_goto (tgt := 164) hx hb dX2_advance_156 (by decide) ?_
          replace hf := Option.some.inj hf
          subst hf
          exact eV X hw hr hlk dX2_advance_164
      · replace hf := (if_neg c98).symm.trans hf
        refine lv_aload_n hx hb dX2_advance_127 rfl (lv_at hl 0 rfl) ?_
        obtain ⟨u107, q108, hf⟩ := ob hf
        refine cVv (As := []) X hw (ctX2_scanLetters l E b  q108) ⟨mw_342, mw_344, mw_1, mw_53, mw_345⟩ hd_X2_scanLetters ⟨Nat.le_of_ble_eq_true rfl, Nat.le_of_ble_eq_true rfl, rfl, rfl⟩ (kdk kk_1 (by decide)) (ce_X2 E _ _ _ _ kk_1) (show vwCl[2]? = some (RX2, TX2, 8) from rfl) rfl hl.1 rfl (Nat.le_of_ble_eq_true rfl) dX2_advance_128 (fun H locs hw => ?_)
        refine lv_goto (tgt := 164) hx hb dX2_advance_131 (by decide) ?_
        replace hf := Option.some.inj hf
        subst hf
        exact eV X hw hr hlk dX2_advance_164
    · replace hf := (if_pos c93).symm.trans hf
      refine lv_aload_n hx hb dX2_advance_91 rfl (lv_at hl 0 rfl) ?_
      refine lv_dup hx hb dX2_advance_92 rfl ?_
      refine gt_X2 X hw 2 kk_1 rfl (by decide) mw_140 rfl dX2_advance_93 ?_
      refine lv_iconst (v := 1) hx hb dX2_advance_96 (by decide) ?_
      refine lv_iadd hx hb dX2_advance_97 ?_
      obtain ⟨M109, eM109, hf⟩ := ob hf
      refine pt_X2_2 X hw kk_1 mw_140 dX2_advance_98 (fun H locs hw => ?_)
      rw [Option.some.inj eM109] at hw
      refine lv_aload_n hx hb dX2_advance_101 rfl (lv_at hl 0 rfl) ?_
      refine lv_iconst (v := 3) hx hb dX2_advance_102 (by decide) ?_
      obtain ⟨M110, eM110, hf⟩ := ob hf
      refine pt_X2_4 X hw kk_1 mw_142 dX2_advance_103 (fun H locs hw => ?_)
      rw [Option.some.inj eM110] at hw
      refine lv_goto (tgt := 164) hx hb dX2_advance_106 (by decide) ?_
      replace hf := Option.some.inj hf
      subst hf
      exact eV X hw hr hlk dX2_advance_164
  · replace hf := (if_neg c90).symm.trans hf
    refine lv_aload_n hx hb dX2_advance_66 rfl (lv_at hl 0 rfl) ?_
    refine lv_iconst (v := 0) hx hb dX2_advance_67 (by decide) ?_
    obtain ⟨M111, eM111, hf⟩ := ob hf
    refine pt_X2_4 X hw kk_1 mw_142 dX2_advance_68 (fun H locs hw => ?_)
    rw [Option.some.inj eM111] at hw
    refine lv_goto (tgt := 164) hx hb dX2_advance_71 (by decide) ?_
    replace hf := Option.some.inj hf
    subst hf
    exact eV X hw hr hlk dX2_advance_164
set_option maxHeartbeats 4000000 in
set_option maxRecDepth 100000 in
theorem tX2_advance_0 {p : Program} {l : Launch} {e : Env} {s : State} {m : MethodId} {args : Array Value} {below : List Frame} {meth : Method} {c : Code} {E : EE} {b : Nat} {TC : Int64} {MM : Mem} {TM : Int64} {res : Mem} (X : CX E p s m args c cX2_advance 1 RX2) (hr : meth.sig.returnType = none) (hlk : meth.locks = false)    : ∀ (n : Nat) (M : Mem), gX2_advance_0 n M = some res → ∀ (H : Heap) (locs : List Loc) (ls : Array Slot), WW E b M TC MM TM s H locs → lv_has ls 1 [(0, .ref (b + 1))] → W p l e rmX2_advance s m args below meth c H locs 0 0 (MQ below (va_Qv (fun (_ : Unit) => True) (fun _ t => PW E b res TC MM TM t) (AA b)) args s 0 0 (AA b)) (F0 m 0 ls []) := by
  have hx := X.1
  have hb := X.2.1
  intro n
  induction n with
  | zero =>
    intro M hf
    cases (show (none : Option (Mem)) = some res from hf)
  | succ n ih =>
    intro M hf H locs ls hw hl
    rw [gX2_advance_0] at hf
    refine lv_aload_n hx hb dX2_advance_0 rfl (lv_at hl 0 rfl) ?_
    refine gt_X2 X hw 2 kk_1 rfl (by decide) mw_140 rfl dX2_advance_1 ?_
    refine lv_aload_n hx hb dX2_advance_4 rfl (lv_at hl 0 rfl) ?_
    refine gt_X2 X hw 0 kk_1 rfl (by decide) mw_136 rfl dX2_advance_5 ?_
    refine gt_X4 X hw 1 kk_2 rfl (by decide) mw_89 rfl dX2_advance_8 ?_
    refine lv_icmp_ge (tgt := 44) hx hb dX2_advance_11 (by decide) (fun c88 => ?_) (fun c88 => ?_)
    · replace hf := (if_pos c88).symm.trans hf
      exact tX2_advance_44 X hr hlk M hf H locs ls hw (lv_sub hl [0] rfl)
    · replace hf := (if_neg c88).symm.trans hf
      refine lv_aload_n hx hb dX2_advance_14 rfl (lv_at hl 0 rfl) ?_
      refine gt_X2 X hw 0 kk_1 rfl (by decide) mw_136 rfl dX2_advance_15 ?_
      refine gt_X4 X hw 0 kk_2 rfl (by decide) mw_87 rfl dX2_advance_18 ?_
      refine lv_aload_n hx hb dX2_advance_21 rfl (lv_at hl 0 rfl) ?_
      refine gt_X2 X hw 2 kk_1 rfl (by decide) mw_140 rfl dX2_advance_22 ?_
      obtain ⟨v112, q113, hf⟩ := ob hf
      refine aldC X hw kdv_3 q113 dX2_advance_25 ?_
      refine lv_bipush (v := 32) hx hb dX2_advance_26 (by decide) ?_
      refine lv_icmp_ne (tgt := 44) hx hb dX2_advance_28 (by decide) (fun c114 => ?_) (fun c114 => ?_)
      · replace hf := (if_neg c114).symm.trans hf
        exact tX2_advance_44 X hr hlk M hf H locs ls hw (lv_sub hl [0] rfl)
      · replace hf := (if_pos c114).symm.trans hf
        refine lv_aload_n hx hb dX2_advance_31 rfl (lv_at hl 0 rfl) ?_
        refine lv_dup hx hb dX2_advance_32 rfl ?_
        refine gt_X2 X hw 2 kk_1 rfl (by decide) mw_140 rfl dX2_advance_33 ?_
        refine lv_iconst (v := 1) hx hb dX2_advance_36 (by decide) ?_
        refine lv_iadd hx hb dX2_advance_37 ?_
        obtain ⟨M115, eM115, hf⟩ := ob hf
        refine pt_X2_2 X hw kk_1 mw_140 dX2_advance_38 (fun H locs hw => ?_)
        rw [Option.some.inj eM115] at hw
        refine lv_goto (tgt := 0) hx hb dX2_advance_41 (by decide) ?_
        exact ih M115 hf H locs ls hw (lv_sub hl [0] rfl)
set_option maxHeartbeats 4000000 in
set_option maxRecDepth 100000 in
theorem ctX2_advance (l : Launch) (E : EE) (b : Nat) {TC : Int64} {MM : Mem} {TM : Int64} {M : Mem} {res : Mem}  (hf : gX2_advance M = some res) : MetV l E b yX2_advance (.code yX2_advance cX2_advance 1 none) rmX2_advance [.ref (b + 1)] M TC MM TM res TC MM TM := by
  refine Met.ofW (cc := cX2_advance) (maxL := 1) (ret := none) (by decide) rfl ?_
  intro p e s m args below meth c s₁ B hml hv
  obtain ⟨rfl, hP, hK⟩ := hv
  have hx := B.exec
  have hb := B.bytes
  have X : CX E p s m _ c cX2_advance 1 RX2 := ⟨hx, hb, hml, findClass_of_methodNamed B.named, fun w h => atoms_spec (ws := _ :: wt) B.pre w (List.mem_cons_of_mem _ h), hK⟩
  have hr := B.returns
  have hlk := B.notSynchronized
  have hw : WW E b M TC MM TM s s.heap [] := ⟨hP, va_S.rf⟩
  have hl := lv_entry ([.ref (b + 1)]) (n := 1) (Nat.le_of_ble_eq_true rfl)
  rw [lg_entry_eq]
  generalize (lg_sl ([.ref (b + 1)]) ++ List.replicate (1 - (lg_sl ([.ref (b + 1)])).length) Slot.unset).toArray = ls at hl ⊢
  have hl : lv_has ls 1 [(0, .ref (b + 1))] := hl
  obtain ⟨H, hH⟩ : ∃ H, H = s.heap := ⟨_, rfl⟩
  obtain ⟨locs, hL⟩ : ∃ L : List Loc, L = [] := ⟨_, rfl⟩
  rw [← hH, ← hL] at hw
  suffices hg : W p l e rmX2_advance s m _ below meth c H locs 0 0 (MQ below (va_Qv (fun (_ : Unit) => True) (fun _ t => PW E b res TC MM TM t) (AA b)) _ s 0 0 (AA b)) (F0 m 0 ls []) by rw [hH, hL] at hg; exact hg
  clear hH hL
  rw [gX2_advance] at hf
  exact tX2_advance_0 X hr hlk FU M hf H locs ls hw (lv_sub hl [0] rfl)

abbrev rmX2_mayBegin : Room := { frames := 0, cells := 0, slots := 0, locals := 0 }
theorem hd_X2_mayBegin : Hd yX2_mayBegin RX2 1 := by decide +kernel
def gX2_mayBegin_78   (y0 : Int32) (M : Mem) : Option (Int32) := (zr y0).bind fun v118 => some (v118)
def gX2_mayBegin_65   (y0 : Int32) (M : Mem) : Option (Int32) := (zr y0).bind fun v122 => some (v122)
def gX2_mayBegin_52   (y0 : Int32) (M : Mem) : Option (Int32) := (zr y0).bind fun v126 => some (v126)
def gX2_mayBegin (x1 : Int32) (M : Mem) : Option (Int32) := if x1 = 106 then (if (M 1 7) = 0 then (gX2_mayBegin_78 1 M) else (gX2_mayBegin_78 0 M)) else (if x1 = 109 then (if (M 1 6) = 0 then (gX2_mayBegin_65 1 M) else (gX2_mayBegin_65 0 M)) else (if x1 = 112 then (if 5 ≤ (M 4 3) then (gX2_mayBegin_52 0 M) else (gX2_mayBegin_52 1 M)) else (some (0))))
set_option maxHeartbeats 4000000 in
set_option maxRecDepth 100000 in
theorem tX2_mayBegin_78 {p : Program} {l : Launch} {e : Env} {s : State} {m : MethodId} {args : Array Value} {below : List Frame} {meth : Method} {c : Code} {E : EE} {b : Nat} {TC : Int64} {MM : Mem} {TM : Int64} {res : Int32} (X : CX E p s m args c cX2_mayBegin 2 RX2) (hr : meth.sig.returnType = (some .boolean)) (hlk : meth.locks = false)    : ∀ (y0 : Int32) (M : Mem), gX2_mayBegin_78 y0 M = some res → ∀ (H : Heap) (locs : List Loc) (ls : Array Slot), WW E b M TC MM TM s H locs → lv_has ls 2 [] → W p l e rmX2_mayBegin s m args below meth c H locs 0 0 (MQ below (va_Qi (fun x (_ : Unit) => x = res) (fun _ t => PW E b M TC MM TM t) (AA b)) args s 0 0 (AA b)) (F0 m 78 ls [.int y0]) := by
  have hx := X.1
  have hb := X.2.1
  intro y0 M hf H locs ls hw hl
  rw [gX2_mayBegin_78] at hf
  obtain ⟨v118, q119, hf⟩ := ob hf
  obtain ⟨eq119, q119⟩ := zr_s q119
  rw [eq119]
  replace hf := Option.some.inj hf
  subst hf
  exact eZ X hw q119 hr hlk dX2_mayBegin_78
set_option maxHeartbeats 4000000 in
set_option maxRecDepth 100000 in
theorem tX2_mayBegin_65 {p : Program} {l : Launch} {e : Env} {s : State} {m : MethodId} {args : Array Value} {below : List Frame} {meth : Method} {c : Code} {E : EE} {b : Nat} {TC : Int64} {MM : Mem} {TM : Int64} {res : Int32} (X : CX E p s m args c cX2_mayBegin 2 RX2) (hr : meth.sig.returnType = (some .boolean)) (hlk : meth.locks = false)    : ∀ (y0 : Int32) (M : Mem), gX2_mayBegin_65 y0 M = some res → ∀ (H : Heap) (locs : List Loc) (ls : Array Slot), WW E b M TC MM TM s H locs → lv_has ls 2 [] → W p l e rmX2_mayBegin s m args below meth c H locs 0 0 (MQ below (va_Qi (fun x (_ : Unit) => x = res) (fun _ t => PW E b M TC MM TM t) (AA b)) args s 0 0 (AA b)) (F0 m 65 ls [.int y0]) := by
  have hx := X.1
  have hb := X.2.1
  intro y0 M hf H locs ls hw hl
  rw [gX2_mayBegin_65] at hf
  obtain ⟨v122, q123, hf⟩ := ob hf
  obtain ⟨eq123, q123⟩ := zr_s q123
  rw [eq123]
  replace hf := Option.some.inj hf
  subst hf
  exact eZ X hw q123 hr hlk dX2_mayBegin_65
set_option maxHeartbeats 4000000 in
set_option maxRecDepth 100000 in
theorem tX2_mayBegin_52 {p : Program} {l : Launch} {e : Env} {s : State} {m : MethodId} {args : Array Value} {below : List Frame} {meth : Method} {c : Code} {E : EE} {b : Nat} {TC : Int64} {MM : Mem} {TM : Int64} {res : Int32} (X : CX E p s m args c cX2_mayBegin 2 RX2) (hr : meth.sig.returnType = (some .boolean)) (hlk : meth.locks = false)    : ∀ (y0 : Int32) (M : Mem), gX2_mayBegin_52 y0 M = some res → ∀ (H : Heap) (locs : List Loc) (ls : Array Slot), WW E b M TC MM TM s H locs → lv_has ls 2 [] → W p l e rmX2_mayBegin s m args below meth c H locs 0 0 (MQ below (va_Qi (fun x (_ : Unit) => x = res) (fun _ t => PW E b M TC MM TM t) (AA b)) args s 0 0 (AA b)) (F0 m 52 ls [.int y0]) := by
  have hx := X.1
  have hb := X.2.1
  intro y0 M hf H locs ls hw hl
  rw [gX2_mayBegin_52] at hf
  obtain ⟨v126, q127, hf⟩ := ob hf
  obtain ⟨eq127, q127⟩ := zr_s q127
  rw [eq127]
  replace hf := Option.some.inj hf
  subst hf
  exact eZ X hw q127 hr hlk dX2_mayBegin_52
set_option maxHeartbeats 4000000 in
set_option maxRecDepth 100000 in
theorem ctX2_mayBegin (l : Launch) (E : EE) (b : Nat) {TC : Int64} {MM : Mem} {TM : Int64} {x1 : Int32} {M : Mem} {res : Int32}  (hf : gX2_mayBegin x1 M = some res) : MetI l E b yX2_mayBegin (.code yX2_mayBegin cX2_mayBegin 2 (some .boolean)) rmX2_mayBegin [.ref (b + 1), .int x1] M TC MM TM res M TC MM TM := by
  refine Met.ofW (cc := cX2_mayBegin) (maxL := 2) (ret := (some .boolean)) (by decide) rfl ?_
  intro p e s m args below meth c s₁ B hml hv
  obtain ⟨rfl, hP, hK⟩ := hv
  have hx := B.exec
  have hb := B.bytes
  have X : CX E p s m _ c cX2_mayBegin 2 RX2 := ⟨hx, hb, hml, findClass_of_methodNamed B.named, fun w h => atoms_spec (ws := _ :: wt) B.pre w (List.mem_cons_of_mem _ h), hK⟩
  have hr := B.returns
  have hlk := B.notSynchronized
  have hw : WW E b M TC MM TM s s.heap [] := ⟨hP, va_S.rf⟩
  have hl := lv_entry ([.ref (b + 1), .int x1]) (n := 2) (Nat.le_of_ble_eq_true rfl)
  rw [lg_entry_eq]
  generalize (lg_sl ([.ref (b + 1), .int x1]) ++ List.replicate (2 - (lg_sl ([.ref (b + 1), .int x1])).length) Slot.unset).toArray = ls at hl ⊢
  have hl : lv_has ls 2 [(0, .ref (b + 1)), (1, .int x1)] := hl
  obtain ⟨H, hH⟩ : ∃ H, H = s.heap := ⟨_, rfl⟩
  obtain ⟨locs, hL⟩ : ∃ L : List Loc, L = [] := ⟨_, rfl⟩
  rw [← hH, ← hL] at hw
  suffices hg : W p l e rmX2_mayBegin s m _ below meth c H locs 0 0 (MQ below (va_Qi (fun x (_ : Unit) => x = res) (fun _ t => PW E b M TC MM TM t) (AA b)) _ s 0 0 (AA b)) (F0 m 0 ls []) by rw [hH, hL] at hg; exact hg
  clear hH hL
  rw [gX2_mayBegin] at hf
  refine lv_iload_n hx hb dX2_mayBegin_0 rfl (lv_at hl 1 rfl) ?_
  by_cases c116 : x1 = 106
  · replace hf := (if_pos c116).symm.trans hf
    refine lv_lookup (tgt := 66) (off := 65) hx hb dX2_mayBegin_1 (by decide) (by rw [c116]; rfl) (by decide) ?_
    refine lv_aload_n hx hb dX2_mayBegin_66 rfl (lv_at hl 0 rfl) ?_
    refine gt_X2 X hw 7 kk_1 rfl (by decide) mw_145 rfl dX2_mayBegin_67 ?_
    refine lv_if_ne (tgt := 77) hx hb dX2_mayBegin_70 (by decide) (fun c117 => ?_) (fun c117 => ?_)
    · replace hf := (if_neg c117).symm.trans hf
      refine lv_iconst (v := 0) hx hb dX2_mayBegin_77 (by decide) ?_
      exact tX2_mayBegin_78 X hr hlk 0 M hf H locs ls hw (lv_sub hl [] rfl)
    · replace hf := (if_pos c117).symm.trans hf
      refine lv_iconst (v := 1) hx hb dX2_mayBegin_73 (by decide) ?_
      refine lv_goto (tgt := 78) hx hb dX2_mayBegin_74 (by decide) ?_
      exact tX2_mayBegin_78 X hr hlk 1 M hf H locs ls hw (lv_sub hl [] rfl)
  · replace hf := (if_neg c116).symm.trans hf
    by_cases c120 : x1 = 109
    · replace hf := (if_pos c120).symm.trans hf
      refine lv_lookup (tgt := 53) (off := 52) hx hb dX2_mayBegin_1 (by decide) (by rw [c120]; rfl) (by decide) ?_
      refine lv_aload_n hx hb dX2_mayBegin_53 rfl (lv_at hl 0 rfl) ?_
      refine gt_X2 X hw 6 kk_1 rfl (by decide) mw_144 rfl dX2_mayBegin_54 ?_
      refine lv_if_ne (tgt := 64) hx hb dX2_mayBegin_57 (by decide) (fun c121 => ?_) (fun c121 => ?_)
      · replace hf := (if_neg c121).symm.trans hf
        refine lv_iconst (v := 0) hx hb dX2_mayBegin_64 (by decide) ?_
        exact tX2_mayBegin_65 X hr hlk 0 M hf H locs ls hw (lv_sub hl [] rfl)
      · replace hf := (if_pos c121).symm.trans hf
        refine lv_iconst (v := 1) hx hb dX2_mayBegin_60 (by decide) ?_
        refine lv_goto (tgt := 65) hx hb dX2_mayBegin_61 (by decide) ?_
        exact tX2_mayBegin_65 X hr hlk 1 M hf H locs ls hw (lv_sub hl [] rfl)
    · replace hf := (if_neg c120).symm.trans hf
      by_cases c124 : x1 = 112
      · replace hf := (if_pos c124).symm.trans hf
        refine lv_lookup (tgt := 36) (off := 35) hx hb dX2_mayBegin_1 (by decide) (by rw [c124]; rfl) (by decide) ?_
        refine lv_aload_n hx hb dX2_mayBegin_36 rfl (lv_at hl 0 rfl) ?_
        refine gt_X2 X hw 1 kk_1 rfl (by decide) mw_138 rfl dX2_mayBegin_37 ?_
        refine gt_X6 X hw 3 kk_4 rfl (by decide) mw_112 rfl dX2_mayBegin_40 ?_
        refine lv_iconst (v := 5) hx hb dX2_mayBegin_43 (by decide) ?_
        refine lv_icmp_ge (tgt := 51) hx hb dX2_mayBegin_44 (by decide) (fun c125 => ?_) (fun c125 => ?_)
        · replace hf := (if_pos c125).symm.trans hf
          refine lv_iconst (v := 0) hx hb dX2_mayBegin_51 (by decide) ?_
          exact tX2_mayBegin_52 X hr hlk 0 M hf H locs ls hw (lv_sub hl [] rfl)
        · replace hf := (if_neg c125).symm.trans hf
          refine lv_iconst (v := 1) hx hb dX2_mayBegin_47 (by decide) ?_
          refine lv_goto (tgt := 52) hx hb dX2_mayBegin_48 (by decide) ?_
          exact tX2_mayBegin_52 X hr hlk 1 M hf H locs ls hw (lv_sub hl [] rfl)
      · replace hf := (if_neg c124).symm.trans hf
        have nc116 : x1.toInt ≠ 106 := fun q => c116 (Int32.toInt_inj.mp (q.trans (by decide)))
        have nc120 : x1.toInt ≠ 109 := fun q => c120 (Int32.toInt_inj.mp (q.trans (by decide)))
        have nc124 : x1.toInt ≠ 112 := fun q => c124 (Int32.toInt_inj.mp (q.trans (by decide)))
        refine lv_lookup (tgt := 79) (off := 78) hx hb dX2_mayBegin_1 (by decide) (by simp [Op.lookupswitch.offset, List.find?, beq_false_of_ne nc116, beq_false_of_ne (Ne.symm nc116), nc116, Ne.symm nc116, beq_false_of_ne nc120, beq_false_of_ne (Ne.symm nc120), nc120, Ne.symm nc120, beq_false_of_ne nc124, beq_false_of_ne (Ne.symm nc124), nc124, Ne.symm nc124]) (by decide) ?_
        refine lv_iconst (v := 0) hx hb dX2_mayBegin_79 (by decide) ?_
        replace hf := Option.some.inj hf
        subst hf
        exact eZ X hw (show (0 : Int32) = 0 ∨ (0 : Int32) = 1 by decide) hr hlk dX2_mayBegin_80

abbrev rmX7_within : Room := { frames := 0, cells := 0, slots := 0, locals := 0 }
theorem hd_X7_within : Hd yX7_within RX7 3 := by decide +kernel
def gX7_within_15   (y0 : Int32) : Option (Int32) := (zr y0).bind fun v129 => some (v129)
def gX7_within (x0 : Int32) (x1 : Int32) (x2 : Int32) : Option (Int32) := if x0 < x1 then (gX7_within_15 0) else (if x2 < x0 then (gX7_within_15 0) else (gX7_within_15 1))
set_option maxHeartbeats 4000000 in
set_option maxRecDepth 100000 in
theorem tX7_within_15 {p : Program} {l : Launch} {e : Env} {s : State} {m : MethodId} {args : Array Value} {below : List Frame} {meth : Method} {c : Code} {E : EE} {b : Nat} {MC : Mem} {TC : Int64} {MM : Mem} {TM : Int64} {res : Int32} (X : CX E p s m args c cX7_within 3 RX7) (hr : meth.sig.returnType = (some .boolean)) (hlk : meth.locks = false)    : ∀ (y0 : Int32), gX7_within_15 y0 = some res → ∀ (H : Heap) (locs : List Loc) (ls : Array Slot), WW E b MC TC MM TM s H locs → lv_has ls 3 [] → W p l e rmX7_within s m args below meth c H locs 0 0 (MQ below (va_Qi (fun x (_ : Unit) => x = res) (fun _ t => PW E b MC TC MM TM t) (AA b)) args s 0 0 (AA b)) (F0 m 15 ls [.int y0]) := by
  have hx := X.1
  have hb := X.2.1
  intro y0 hf H locs ls hw hl
  rw [gX7_within_15] at hf
  obtain ⟨v129, q130, hf⟩ := ob hf
  obtain ⟨eq130, q130⟩ := zr_s q130
  rw [eq130]
  replace hf := Option.some.inj hf
  subst hf
  exact eZ X hw q130 hr hlk dX7_within_15
set_option maxHeartbeats 4000000 in
set_option maxRecDepth 100000 in
theorem ctX7_within (l : Launch) (E : EE) (b : Nat) {MC : Mem} {TC : Int64} {MM : Mem} {TM : Int64} {x0 : Int32} {x1 : Int32} {x2 : Int32} {res : Int32}  (hf : gX7_within x0 x1 x2 = some res) : MetI l E b yX7_within (.code yX7_within cX7_within 3 (some .boolean)) rmX7_within [.int x0, .int x1, .int x2] MC TC MM TM res MC TC MM TM := by
  refine Met.ofW (cc := cX7_within) (maxL := 3) (ret := (some .boolean)) (by decide) rfl ?_
  intro p e s m args below meth c s₁ B hml hv
  obtain ⟨rfl, hP, hK⟩ := hv
  have hx := B.exec
  have hb := B.bytes
  have X : CX E p s m _ c cX7_within 3 RX7 := ⟨hx, hb, hml, findClass_of_methodNamed B.named, fun w h => atoms_spec (ws := _ :: wt) B.pre w (List.mem_cons_of_mem _ h), hK⟩
  have hr := B.returns
  have hlk := B.notSynchronized
  have hw : WW E b MC TC MM TM s s.heap [] := ⟨hP, va_S.rf⟩
  have hl := lv_entry ([.int x0, .int x1, .int x2]) (n := 3) (Nat.le_of_ble_eq_true rfl)
  rw [lg_entry_eq]
  generalize (lg_sl ([.int x0, .int x1, .int x2]) ++ List.replicate (3 - (lg_sl ([.int x0, .int x1, .int x2])).length) Slot.unset).toArray = ls at hl ⊢
  have hl : lv_has ls 3 [(0, .int x0), (1, .int x1), (2, .int x2)] := hl
  obtain ⟨H, hH⟩ : ∃ H, H = s.heap := ⟨_, rfl⟩
  obtain ⟨locs, hL⟩ : ∃ L : List Loc, L = [] := ⟨_, rfl⟩
  rw [← hH, ← hL] at hw
  suffices hg : W p l e rmX7_within s m _ below meth c H locs 0 0 (MQ below (va_Qi (fun x (_ : Unit) => x = res) (fun _ t => PW E b MC TC MM TM t) (AA b)) _ s 0 0 (AA b)) (F0 m 0 ls []) by rw [hH, hL] at hg; exact hg
  clear hH hL
  rw [gX7_within] at hf
  refine lv_iload_n hx hb dX7_within_0 rfl (lv_at hl 1 rfl) ?_
  refine lv_iload_n hx hb dX7_within_1 rfl (lv_at hl 0 rfl) ?_
  refine lv_icmp_gt (tgt := 14) hx hb dX7_within_2 (by decide) (fun c128 => ?_) (fun c128 => ?_)
  · replace hf := (if_pos c128).symm.trans hf
    refine lv_iconst (v := 0) hx hb dX7_within_14 (by decide) ?_
    exact tX7_within_15 X hr hlk 0 hf H locs ls hw (lv_sub hl [] rfl)
  · replace hf := (if_neg c128).symm.trans hf
    refine lv_iload_n hx hb dX7_within_5 rfl (lv_at hl 0 rfl) ?_
    refine lv_iload_n hx hb dX7_within_6 rfl (lv_at hl 2 rfl) ?_
    refine lv_icmp_gt (tgt := 14) hx hb dX7_within_7 (by decide) (fun c131 => ?_) (fun c131 => ?_)
    · replace hf := (if_pos c131).symm.trans hf
      refine lv_iconst (v := 0) hx hb dX7_within_14 (by decide) ?_
      exact tX7_within_15 X hr hlk 0 hf H locs ls hw (lv_sub hl [] rfl)
    · replace hf := (if_neg c131).symm.trans hf
      refine lv_iconst (v := 1) hx hb dX7_within_10 (by decide) ?_
      refine lv_goto (tgt := 15) hx hb dX7_within_11 (by decide) ?_
      exact tX7_within_15 X hr hlk 1 hf H locs ls hw (lv_sub hl [] rfl)

abbrev rmX2_isNumber : Room := { frames := 1, cells := 0, slots := 0, locals := 22 }
theorem hd_X2_isNumber : Hd yX2_isNumber RX2 2 := by decide +kernel
def gX2_isNumber_25   (y0 : Int32) (M : Mem) : Option (Int32) := (zr y0).bind fun v133 => some (v133)
def gX2_isNumber (x1 : Int32) (x2 : Int32) (M : Mem) : Option (Int32) := if (M 1 4) = 2 then ((gX7_within (M 1 5) x1 x2).bind fun u135 => if u135 = 0 then (gX2_isNumber_25 0 M) else (gX2_isNumber_25 1 M)) else (gX2_isNumber_25 0 M)
set_option maxHeartbeats 4000000 in
set_option maxRecDepth 100000 in
theorem tX2_isNumber_25 {p : Program} {l : Launch} {e : Env} {s : State} {m : MethodId} {args : Array Value} {below : List Frame} {meth : Method} {c : Code} {E : EE} {b : Nat} {TC : Int64} {MM : Mem} {TM : Int64} {res : Int32} (X : CX E p s m args c cX2_isNumber 3 RX2) (hr : meth.sig.returnType = (some .boolean)) (hlk : meth.locks = false)    : ∀ (y0 : Int32) (M : Mem), gX2_isNumber_25 y0 M = some res → ∀ (H : Heap) (locs : List Loc) (ls : Array Slot), WW E b M TC MM TM s H locs → lv_has ls 3 [] → W p l e rmX2_isNumber s m args below meth c H locs 0 0 (MQ below (va_Qi (fun x (_ : Unit) => x = res) (fun _ t => PW E b M TC MM TM t) (AA b)) args s 0 0 (AA b)) (F0 m 25 ls [.int y0]) := by
  have hx := X.1
  have hb := X.2.1
  intro y0 M hf H locs ls hw hl
  rw [gX2_isNumber_25] at hf
  obtain ⟨v133, q134, hf⟩ := ob hf
  obtain ⟨eq134, q134⟩ := zr_s q134
  rw [eq134]
  replace hf := Option.some.inj hf
  subst hf
  exact eZ X hw q134 hr hlk dX2_isNumber_25
set_option maxHeartbeats 4000000 in
set_option maxRecDepth 100000 in
theorem ctX2_isNumber (l : Launch) (E : EE) (b : Nat) {TC : Int64} {MM : Mem} {TM : Int64} {x1 : Int32} {x2 : Int32} {M : Mem} {res : Int32}  (hf : gX2_isNumber x1 x2 M = some res) : MetI l E b yX2_isNumber (.code yX2_isNumber cX2_isNumber 3 (some .boolean)) rmX2_isNumber [.ref (b + 1), .int x1, .int x2] M TC MM TM res M TC MM TM := by
  refine Met.ofW (cc := cX2_isNumber) (maxL := 3) (ret := (some .boolean)) (by decide) rfl ?_
  intro p e s m args below meth c s₁ B hml hv
  obtain ⟨rfl, hP, hK⟩ := hv
  have hx := B.exec
  have hb := B.bytes
  have X : CX E p s m _ c cX2_isNumber 3 RX2 := ⟨hx, hb, hml, findClass_of_methodNamed B.named, fun w h => atoms_spec (ws := _ :: wt) B.pre w (List.mem_cons_of_mem _ h), hK⟩
  have hr := B.returns
  have hlk := B.notSynchronized
  have hw : WW E b M TC MM TM s s.heap [] := ⟨hP, va_S.rf⟩
  have hl := lv_entry ([.ref (b + 1), .int x1, .int x2]) (n := 3) (Nat.le_of_ble_eq_true rfl)
  rw [lg_entry_eq]
  generalize (lg_sl ([.ref (b + 1), .int x1, .int x2]) ++ List.replicate (3 - (lg_sl ([.ref (b + 1), .int x1, .int x2])).length) Slot.unset).toArray = ls at hl ⊢
  have hl : lv_has ls 3 [(0, .ref (b + 1)), (1, .int x1), (2, .int x2)] := hl
  obtain ⟨H, hH⟩ : ∃ H, H = s.heap := ⟨_, rfl⟩
  obtain ⟨locs, hL⟩ : ∃ L : List Loc, L = [] := ⟨_, rfl⟩
  rw [← hH, ← hL] at hw
  suffices hg : W p l e rmX2_isNumber s m _ below meth c H locs 0 0 (MQ below (va_Qi (fun x (_ : Unit) => x = res) (fun _ t => PW E b M TC MM TM t) (AA b)) _ s 0 0 (AA b)) (F0 m 0 ls []) by rw [hH, hL] at hg; exact hg
  clear hH hL
  rw [gX2_isNumber] at hf
  refine lv_aload_n hx hb dX2_isNumber_0 rfl (lv_at hl 0 rfl) ?_
  refine gt_X2 X hw 4 kk_1 rfl (by decide) mw_142 rfl dX2_isNumber_1 ?_
  refine lv_iconst (v := 2) hx hb dX2_isNumber_4 (by decide) ?_
  refine lv_icmp_ne (tgt := 24) hx hb dX2_isNumber_5 (by decide) (fun c132 => ?_) (fun c132 => ?_)
  · replace hf := (if_neg c132).symm.trans hf
    refine lv_iconst (v := 0) hx hb dX2_isNumber_24 (by decide) ?_
    exact tX2_isNumber_25 X hr hlk 0 M hf H locs ls hw (lv_sub hl [] rfl)
  · replace hf := (if_pos c132).symm.trans hf
    refine lv_aload_n hx hb dX2_isNumber_8 rfl (lv_at hl 0 rfl) ?_
    refine gt_X2 X hw 5 kk_1 rfl (by decide) mw_143 rfl dX2_isNumber_9 ?_
    refine lv_iload_n hx hb dX2_isNumber_12 rfl (lv_at hl 1 rfl) ?_
    refine lv_iload_n hx hb dX2_isNumber_13 rfl (lv_at hl 2 rfl) ?_
    obtain ⟨u135, q136, hf⟩ := ob hf
    refine cNi (As := [.int (M 1 5), .int x1, .int x2]) (host := RX7) X hw (ctX7_within l E b  q136) (by decide +kernel) ⟨mw_317, mw_52, mw_318⟩ hd_X7_within ⟨Nat.le_of_ble_eq_true rfl, Nat.le_of_ble_eq_true rfl, rfl, rfl⟩ rfl hl.1 rfl (Nat.le_of_ble_eq_true rfl) dX2_isNumber_14 (fun H locs hw => ?_)
    refine lv_if_eq (tgt := 24) hx hb dX2_isNumber_17 (by decide) (fun c137 => ?_) (fun c137 => ?_)
    · replace hf := (if_pos c137).symm.trans hf
      refine lv_iconst (v := 0) hx hb dX2_isNumber_24 (by decide) ?_
      exact tX2_isNumber_25 X hr hlk 0 M hf H locs ls hw (lv_sub hl [] rfl)
    · replace hf := (if_neg c137).symm.trans hf
      refine lv_iconst (v := 1) hx hb dX2_isNumber_20 (by decide) ?_
      refine lv_goto (tgt := 25) hx hb dX2_isNumber_21 (by decide) ?_
      exact tX2_isNumber_25 X hr hlk 1 M hf H locs ls hw (lv_sub hl [] rfl)

abbrev rmX2_tellChair : Room := { frames := 3, cells := 0, slots := 0, locals := 62 }
theorem hd_X2_tellChair : Hd yX2_tellChair RX2 0 := by decide +kernel
def gX2_tellChair (M : Mem) : Option (Int32 × Mem) := (gX2_isNumber 0 3 M).bind fun u138 => if u138 = 0 then (some (0, M)) else ((some (us M 4 5 (M 1 5))).bind fun M141 => (some (us M141 1 7 1)).bind fun M142 => (gX2_advance M142).bind fun u143 => some (1, u143))
set_option maxHeartbeats 4000000 in
set_option maxRecDepth 100000 in
theorem ctX2_tellChair (l : Launch) (E : EE) (b : Nat) {TC : Int64} {MM : Mem} {TM : Int64} {M : Mem} {res : Int32 × Mem}  (hf : gX2_tellChair M = some res) : MetI l E b yX2_tellChair (.code yX2_tellChair cX2_tellChair 1 (some .boolean)) rmX2_tellChair [.ref (b + 1)] M TC MM TM res.1 res.2 TC MM TM := by
  refine Met.ofW (cc := cX2_tellChair) (maxL := 1) (ret := (some .boolean)) (by decide) rfl ?_
  intro p e s m args below meth c s₁ B hml hv
  obtain ⟨rfl, hP, hK⟩ := hv
  have hx := B.exec
  have hb := B.bytes
  have X : CX E p s m _ c cX2_tellChair 1 RX2 := ⟨hx, hb, hml, findClass_of_methodNamed B.named, fun w h => atoms_spec (ws := _ :: wt) B.pre w (List.mem_cons_of_mem _ h), hK⟩
  have hr := B.returns
  have hlk := B.notSynchronized
  have hw : WW E b M TC MM TM s s.heap [] := ⟨hP, va_S.rf⟩
  have hl := lv_entry ([.ref (b + 1)]) (n := 1) (Nat.le_of_ble_eq_true rfl)
  rw [lg_entry_eq]
  generalize (lg_sl ([.ref (b + 1)]) ++ List.replicate (1 - (lg_sl ([.ref (b + 1)])).length) Slot.unset).toArray = ls at hl ⊢
  have hl : lv_has ls 1 [(0, .ref (b + 1))] := hl
  obtain ⟨H, hH⟩ : ∃ H, H = s.heap := ⟨_, rfl⟩
  obtain ⟨locs, hL⟩ : ∃ L : List Loc, L = [] := ⟨_, rfl⟩
  rw [← hH, ← hL] at hw
  suffices hg : W p l e rmX2_tellChair s m _ below meth c H locs 0 0 (MQ below (va_Qi (fun x (_ : Unit) => x = res.1) (fun _ t => PW E b res.2 TC MM TM t) (AA b)) _ s 0 0 (AA b)) (F0 m 0 ls []) by rw [hH, hL] at hg; exact hg
  clear hH hL
  rw [gX2_tellChair] at hf
  refine lv_aload_n hx hb dX2_tellChair_0 rfl (lv_at hl 0 rfl) ?_
  refine lv_iconst (v := 0) hx hb dX2_tellChair_1 (by decide) ?_
  refine lv_iconst (v := 3) hx hb dX2_tellChair_2 (by decide) ?_
  obtain ⟨u138, q139, hf⟩ := ob hf
  refine cVi (As := [.int 0, .int 3]) X hw (ctX2_isNumber l E b  q139) ⟨mw_368, mw_370, mw_6, mw_53, mw_371⟩ hd_X2_isNumber ⟨Nat.le_of_ble_eq_true rfl, Nat.le_of_ble_eq_true rfl, rfl, rfl⟩ (kdk kk_1 (by decide)) (ce_X2 E _ _ _ _ kk_1) (show vwCl[2]? = some (RX2, TX2, 8) from rfl) rfl hl.1 rfl (Nat.le_of_ble_eq_true rfl) dX2_tellChair_3 (fun H locs hw => ?_)
  refine lv_if_ne (tgt := 11) hx hb dX2_tellChair_6 (by decide) (fun c140 => ?_) (fun c140 => ?_)
  · replace hf := (if_neg c140).symm.trans hf
    refine lv_aload_n hx hb dX2_tellChair_11 rfl (lv_at hl 0 rfl) ?_
    refine gt_X2 X hw 1 kk_1 rfl (by decide) mw_138 rfl dX2_tellChair_12 ?_
    refine lv_aload_n hx hb dX2_tellChair_15 rfl (lv_at hl 0 rfl) ?_
    refine gt_X2 X hw 5 kk_1 rfl (by decide) mw_143 rfl dX2_tellChair_16 ?_
    obtain ⟨M141, eM141, hf⟩ := ob hf
    refine pt_X6_5 X hw kk_4 mw_122 dX2_tellChair_19 (fun H locs hw => ?_)
    rw [Option.some.inj eM141] at hw
    refine lv_aload_n hx hb dX2_tellChair_22 rfl (lv_at hl 0 rfl) ?_
    refine lv_iconst (v := 1) hx hb dX2_tellChair_23 (by decide) ?_
    obtain ⟨M142, eM142, hf⟩ := ob hf
    refine pt_X2_7 X hw kk_1 (by decide) mw_145 dX2_tellChair_24 (fun H locs hw => ?_)
    rw [Option.some.inj eM142] at hw
    refine lv_aload_n hx hb dX2_tellChair_27 rfl (lv_at hl 0 rfl) ?_
    obtain ⟨u143, q144, hf⟩ := ob hf
    refine cVv (As := []) X hw (ctX2_advance l E b  q144) ⟨mw_335, mw_337, mw_0, mw_53, mw_338⟩ hd_X2_advance ⟨Nat.le_of_ble_eq_true rfl, Nat.le_of_ble_eq_true rfl, rfl, rfl⟩ (kdk kk_1 (by decide)) (ce_X2 E _ _ _ _ kk_1) (show vwCl[2]? = some (RX2, TX2, 8) from rfl) rfl hl.1 rfl (Nat.le_of_ble_eq_true rfl) dX2_tellChair_28 (fun H locs hw => ?_)
    refine lv_iconst (v := 1) hx hb dX2_tellChair_31 (by decide) ?_
    replace hf := Option.some.inj hf
    subst hf
    exact eZ X hw (show (1 : Int32) = 0 ∨ (1 : Int32) = 1 by decide) hr hlk dX2_tellChair_32
  · replace hf := (if_pos c140).symm.trans hf
    refine lv_iconst (v := 0) hx hb dX2_tellChair_9 (by decide) ?_
    replace hf := Option.some.inj hf
    subst hf
    exact eZ X hw (show (0 : Int32) = 0 ∨ (0 : Int32) = 1 by decide) hr hlk dX2_tellChair_10
