abbrev rmX8_settles : Room := { frames := 0, cells := 0, slots := 0, locals := 0 }
theorem hd_X8_settles : Hd yX8_settles RX8 0 := by decide +kernel
def gX8_settles_136   : Nat → Int32 → Mem → Option (Mem)
  | 0, _, _ => none
  | n + 1, x1, M => if 5 ≤ x1 then ((some (us M 197 8 0)).bind fun M11 => (some (us M11 197 10 0)).bind fun M12 => (stZ 2 M12 203 0 0).bind fun M13 => (stZ 2 M13 203 1 0).bind fun M15 => (some (us M15 197 14 0)).bind fun M17 => some (M17)) else ((stA 1233 M 201 (67 + x1) ((-9))).bind fun M18 => (some (x1 + 1)).bind fun z20 => (gX8_settles_136 n) z20 M18)
def gX8_settles_133   (y0 : Int32) (y1 : Int32) (M : Mem) : Option (Mem) := (stA 1233 M 201 y1 y0).bind fun M8 => gX8_settles_136 FU 0 M8
def gX8_settles_93   : Nat → Int32 → Mem → Option (Mem)
  | 0, _, _ => none
  | n + 1, x1, M => if 1233 ≤ x1 then (if 0 ≤ (M 197 26) then (gX8_settles_133 (M 197 26) 1 M) else (gX8_settles_133 0 1 M)) else ((stA 1233 M 201 x1 0).bind fun M21 => (some (x1 + 1)).bind fun z23 => (gX8_settles_93 n) z23 M21)
def gX8_settles_88   (y0 : Int32) (M : Mem) : Option (Mem) := (some (us M 197 4 y0)).bind fun M5 => gX8_settles_93 FU 0 M5
def gX8_settles_47   : Nat → Int32 → Mem → Option (Mem)
  | 0, _, _ => none
  | n + 1, x1, M => if 35 ≤ x1 then (if 0 ≤ (M 197 25) then (gX8_settles_88 (M 197 25) M) else (gX8_settles_88 12 M)) else ((ldA 35 (M 209) x1).bind fun v24 => (stA 35 M 200 x1 v24).bind fun M26 => (some (x1 + 1)).bind fun z28 => (gX8_settles_47 n) z28 M26)
def gX8_settles_10   : Nat → Int32 → Mem → Option (Mem)
  | 0, _, _ => none
  | n + 1, x1, M => if 5 ≤ x1 then (gX8_settles_47 FU 0 M) else ((ldA 5 (M 207) x1).bind fun v29 => (stA 5 M 198 x1 v29).bind fun M31 => (ldA 5 (M31 208) x1).bind fun v33 => (stA 5 M31 199 x1 v33).bind fun M35 => (some (x1 + 1)).bind fun z37 => (gX8_settles_10 n) z37 M35)
def gX8_settles (M : Mem) : Option (Mem) := (some (us M 197 0 (M 197 21))).bind fun M1 => gX8_settles_10 FU 0 M1
set_option maxHeartbeats 4000000 in
set_option maxRecDepth 100000 in
theorem tX8_settles_136 {p : Program} {l : Launch} {e : Env} {s : State} {m : MethodId} {args : Array Value} {below : List Frame} {meth : Method} {c : Code} {E : EE} {b : Nat} {MC : Mem} {TC : Int64} {TM : Int64} {res : Mem} (X : CX E p s m args c cX8_settles 2 RX8) (hr : meth.sig.returnType = none) (hlk : meth.locks = false)    : ∀ (n : Nat) (x1 : Int32) (M : Mem), gX8_settles_136 n x1 M = some res → ∀ (H : Heap) (locs : List Loc) (ls : Array Slot), WW E b MC TC M TM s H locs → lv_has ls 2 [(0, .ref (b + 197)), (1, .int x1)] → W p l e rmX8_settles s m args below meth c H locs 0 0 (MQ below (va_Qv (fun (_ : Unit) => True) (fun _ t => PW E b MC TC res TM t) (AA b)) args s 0 0 (AA b)) (F0 m 136 ls []) := by
  have hx := X.1
  have hb := X.2.1
  intro n
  induction n with
  | zero =>
    intro x1 M hf
    cases (show (none : Option (Mem)) = some res from hf)
  | succ n ih =>
    intro x1 M hf H locs ls hw hl
    rw [gX8_settles_136] at hf
    refine lv_iload_n hx hb dX8_settles_136 rfl (lv_at hl 1 rfl) ?_
    refine lv_iconst (v := 5) hx hb dX8_settles_137 (by decide) ?_
    refine lv_icmp_ge (tgt := 158) hx hb dX8_settles_138 (by decide) (fun c10 => ?_) (fun c10 => ?_)
    · replace hf := (if_pos c10).symm.trans hf
      refine lv_aload_n hx hb dX8_settles_158 rfl (lv_at hl 0 rfl) ?_
      refine lv_iconst (v := 0) hx hb dX8_settles_159 (by decide) ?_
      obtain ⟨M11, eM11, hf⟩ := ob hf
      refine pt_X8_8 X hw kk_197 mw_729 dX8_settles_160 (fun H locs hw => ?_)
      rw [Option.some.inj eM11] at hw
      refine lv_aload_n hx hb dX8_settles_163 rfl (lv_at hl 0 rfl) ?_
      refine lv_iconst (v := 0) hx hb dX8_settles_164 (by decide) ?_
      obtain ⟨M12, eM12, hf⟩ := ob hf
      refine pt_X8_10 X hw kk_197 mw_731 dX8_settles_165 (fun H locs hw => ?_)
      rw [Option.some.inj eM12] at hw
      refine lv_aload_n hx hb dX8_settles_168 rfl (lv_at hl 0 rfl) ?_
      refine gt_X8 X hw 7 kk_197 rfl (by decide) mw_728 rfl dX8_settles_169 ?_
      refine lv_iconst (v := 0) hx hb dX8_settles_172 (by decide) ?_
      refine lv_iconst (v := 0) hx hb dX8_settles_173 (by decide) ?_
      obtain ⟨M13, q14, hf⟩ := ob hf
      refine zstM X hw kdv_203 q14 dX8_settles_174 (fun H locs hw => ?_)
      refine lv_aload_n hx hb dX8_settles_175 rfl (lv_at hl 0 rfl) ?_
      refine gt_X8 X hw 7 kk_197 rfl (by decide) mw_728 rfl dX8_settles_176 ?_
      refine lv_iconst (v := 1) hx hb dX8_settles_179 (by decide) ?_
      refine lv_iconst (v := 0) hx hb dX8_settles_180 (by decide) ?_
      obtain ⟨M15, q16, hf⟩ := ob hf
      refine zstM X hw kdv_203 q16 dX8_settles_181 (fun H locs hw => ?_)
      refine lv_aload_n hx hb dX8_settles_182 rfl (lv_at hl 0 rfl) ?_
      refine lv_iconst (v := 0) hx hb dX8_settles_183 (by decide) ?_
      obtain ⟨M17, eM17, hf⟩ := ob hf
      refine pt_X8_14 X hw kk_197 mw_735 dX8_settles_184 (fun H locs hw => ?_)
      rw [Option.some.inj eM17] at hw
      replace hf := Option.some.inj hf
      subst hf
      exact eV X hw hr hlk dX8_settles_187
    · replace hf := (if_neg c10).symm.trans hf
      refine lv_aload_n hx hb dX8_settles_141 rfl (lv_at hl 0 rfl) ?_
      refine gt_X8 X hw 5 kk_197 rfl (by decide) mw_726 rfl dX8_settles_142 ?_
      refine lv_bipush (v := 67) hx hb dX8_settles_145 (by decide) ?_
      refine lv_iload_n hx hb dX8_settles_147 rfl (lv_at hl 1 rfl) ?_
      refine lv_iadd hx hb dX8_settles_148 ?_
      refine lv_bipush (v := (-9)) hx hb dX8_settles_149 (by decide) ?_
      obtain ⟨M18, q19, hf⟩ := ob hf
      refine astM X hw kdv_201 q19 dX8_settles_151 (fun H locs hw => ?_)
      obtain ⟨z20, ez20⟩ : ∃ y : Int32, y = x1 + 1 := ⟨_, rfl⟩
      replace hf := nmb hf ez20
      refine lv_iinc (v := z20) (lv' := [(1, .int z20), (0, .ref (b + 197))]) hx hb dX8_settles_152 hl (k := 1) rfl (by rw [ez20]; rfl) (by decide) rfl (fun ls hl => ?_)
      refine lv_goto (tgt := 136) hx hb dX8_settles_155 (by decide) ?_
      exact ih z20 M18 hf H locs ls hw (lv_sub hl [1, 0] rfl)
set_option maxHeartbeats 4000000 in
set_option maxRecDepth 100000 in
theorem tX8_settles_133 {p : Program} {l : Launch} {e : Env} {s : State} {m : MethodId} {args : Array Value} {below : List Frame} {meth : Method} {c : Code} {E : EE} {b : Nat} {MC : Mem} {TC : Int64} {TM : Int64} {res : Mem} (X : CX E p s m args c cX8_settles 2 RX8) (hr : meth.sig.returnType = none) (hlk : meth.locks = false)    : ∀ (y0 : Int32) (y1 : Int32) (M : Mem), gX8_settles_133 y0 y1 M = some res → ∀ (H : Heap) (locs : List Loc) (ls : Array Slot), WW E b MC TC M TM s H locs → lv_has ls 2 [(0, .ref (b + 197))] → W p l e rmX8_settles s m args below meth c H locs 0 0 (MQ below (va_Qv (fun (_ : Unit) => True) (fun _ t => PW E b MC TC res TM t) (AA b)) args s 0 0 (AA b)) (F0 m 133 ls [.int y0, .int y1, .ref (b + 201)]) := by
  have hx := X.1
  have hb := X.2.1
  intro y0 y1 M hf H locs ls hw hl
  rw [gX8_settles_133] at hf
  obtain ⟨M8, q9, hf⟩ := ob hf
  refine astM X hw kdv_201 q9 dX8_settles_133 (fun H locs hw => ?_)
  refine lv_iconst (v := 0) hx hb dX8_settles_134 (by decide) ?_
  refine lv_istore_n (lv' := [(1, .int 0), (0, .ref (b + 197))]) hx hb dX8_settles_135 rfl hl (by decide) rfl (fun ls hl => ?_)
  exact tX8_settles_136 X hr hlk FU 0 M8 hf H locs ls hw (lv_sub hl [1, 0] rfl)
set_option maxHeartbeats 4000000 in
set_option maxRecDepth 100000 in
theorem tX8_settles_93 {p : Program} {l : Launch} {e : Env} {s : State} {m : MethodId} {args : Array Value} {below : List Frame} {meth : Method} {c : Code} {E : EE} {b : Nat} {MC : Mem} {TC : Int64} {TM : Int64} {res : Mem} (X : CX E p s m args c cX8_settles 2 RX8) (hr : meth.sig.returnType = none) (hlk : meth.locks = false)    : ∀ (n : Nat) (x1 : Int32) (M : Mem), gX8_settles_93 n x1 M = some res → ∀ (H : Heap) (locs : List Loc) (ls : Array Slot), WW E b MC TC M TM s H locs → lv_has ls 2 [(0, .ref (b + 197)), (1, .int x1)] → W p l e rmX8_settles s m args below meth c H locs 0 0 (MQ below (va_Qv (fun (_ : Unit) => True) (fun _ t => PW E b MC TC res TM t) (AA b)) args s 0 0 (AA b)) (F0 m 93 ls []) := by
  have hx := X.1
  have hb := X.2.1
  intro n
  induction n with
  | zero =>
    intro x1 M hf
    cases (show (none : Option (Mem)) = some res from hf)
  | succ n ih =>
    intro x1 M hf H locs ls hw hl
    rw [gX8_settles_93] at hf
    refine lv_iload_n hx hb dX8_settles_93 rfl (lv_at hl 1 rfl) ?_
    refine lv_sipush (v := 1233) hx hb dX8_settles_94 (by decide) ?_
    refine lv_icmp_ge (tgt := 113) hx hb dX8_settles_97 (by decide) (fun c6 => ?_) (fun c6 => ?_)
    · replace hf := (if_pos c6).symm.trans hf
      refine lv_aload_n hx hb dX8_settles_113 rfl (lv_at hl 0 rfl) ?_
      refine gt_X8 X hw 5 kk_197 rfl (by decide) mw_726 rfl dX8_settles_114 ?_
      refine lv_iconst (v := 1) hx hb dX8_settles_117 (by decide) ?_
      refine lv_aload_n hx hb dX8_settles_118 rfl (lv_at hl 0 rfl) ?_
      refine gt_X8 X hw 26 kk_197 rfl (by decide) mw_747 rfl dX8_settles_119 ?_
      refine lv_if_ge (tgt := 129) hx hb dX8_settles_122 (by decide) (fun c7 => ?_) (fun c7 => ?_)
      · replace hf := (if_pos c7).symm.trans hf
        refine lv_aload_n hx hb dX8_settles_129 rfl (lv_at hl 0 rfl) ?_
        refine gt_X8 X hw 26 kk_197 rfl (by decide) mw_747 rfl dX8_settles_130 ?_
        exact tX8_settles_133 X hr hlk (M 197 26) 1 M hf H locs ls hw (lv_sub hl [0] rfl)
      · replace hf := (if_neg c7).symm.trans hf
        refine lv_iconst (v := 0) hx hb dX8_settles_125 (by decide) ?_
        refine lv_goto (tgt := 133) hx hb dX8_settles_126 (by decide) ?_
        exact tX8_settles_133 X hr hlk 0 1 M hf H locs ls hw (lv_sub hl [0] rfl)
    · replace hf := (if_neg c6).symm.trans hf
      refine lv_aload_n hx hb dX8_settles_100 rfl (lv_at hl 0 rfl) ?_
      refine gt_X8 X hw 5 kk_197 rfl (by decide) mw_726 rfl dX8_settles_101 ?_
      refine lv_iload_n hx hb dX8_settles_104 rfl (lv_at hl 1 rfl) ?_
      refine lv_iconst (v := 0) hx hb dX8_settles_105 (by decide) ?_
      obtain ⟨M21, q22, hf⟩ := ob hf
      refine astM X hw kdv_201 q22 dX8_settles_106 (fun H locs hw => ?_)
      obtain ⟨z23, ez23⟩ : ∃ y : Int32, y = x1 + 1 := ⟨_, rfl⟩
      replace hf := nmb hf ez23
      refine lv_iinc (v := z23) (lv' := [(1, .int z23), (0, .ref (b + 197))]) hx hb dX8_settles_107 hl (k := 1) rfl (by rw [ez23]; rfl) (by decide) rfl (fun ls hl => ?_)
      refine lv_goto (tgt := 93) hx hb dX8_settles_110 (by decide) ?_
      exact ih z23 M21 hf H locs ls hw (lv_sub hl [1, 0] rfl)
set_option maxHeartbeats 4000000 in
set_option maxRecDepth 100000 in
theorem tX8_settles_88 {p : Program} {l : Launch} {e : Env} {s : State} {m : MethodId} {args : Array Value} {below : List Frame} {meth : Method} {c : Code} {E : EE} {b : Nat} {MC : Mem} {TC : Int64} {TM : Int64} {res : Mem} (X : CX E p s m args c cX8_settles 2 RX8) (hr : meth.sig.returnType = none) (hlk : meth.locks = false)    : ∀ (y0 : Int32) (M : Mem), gX8_settles_88 y0 M = some res → ∀ (H : Heap) (locs : List Loc) (ls : Array Slot), WW E b MC TC M TM s H locs → lv_has ls 2 [(0, .ref (b + 197))] → W p l e rmX8_settles s m args below meth c H locs 0 0 (MQ below (va_Qv (fun (_ : Unit) => True) (fun _ t => PW E b MC TC res TM t) (AA b)) args s 0 0 (AA b)) (F0 m 88 ls [.int y0, .ref (b + 197)]) := by
  have hx := X.1
  have hb := X.2.1
  intro y0 M hf H locs ls hw hl
  rw [gX8_settles_88] at hf
  obtain ⟨M5, eM5, hf⟩ := ob hf
  refine pt_X8_4 X hw kk_197 mw_725 dX8_settles_88 (fun H locs hw => ?_)
  rw [Option.some.inj eM5] at hw
  refine lv_iconst (v := 0) hx hb dX8_settles_91 (by decide) ?_
  refine lv_istore_n (lv' := [(1, .int 0), (0, .ref (b + 197))]) hx hb dX8_settles_92 rfl hl (by decide) rfl (fun ls hl => ?_)
  exact tX8_settles_93 X hr hlk FU 0 M5 hf H locs ls hw (lv_sub hl [1, 0] rfl)
set_option maxHeartbeats 4000000 in
set_option maxRecDepth 100000 in
theorem tX8_settles_47 {p : Program} {l : Launch} {e : Env} {s : State} {m : MethodId} {args : Array Value} {below : List Frame} {meth : Method} {c : Code} {E : EE} {b : Nat} {MC : Mem} {TC : Int64} {TM : Int64} {res : Mem} (X : CX E p s m args c cX8_settles 2 RX8) (hr : meth.sig.returnType = none) (hlk : meth.locks = false)    : ∀ (n : Nat) (x1 : Int32) (M : Mem), gX8_settles_47 n x1 M = some res → ∀ (H : Heap) (locs : List Loc) (ls : Array Slot), WW E b MC TC M TM s H locs → lv_has ls 2 [(0, .ref (b + 197)), (1, .int x1)] → W p l e rmX8_settles s m args below meth c H locs 0 0 (MQ below (va_Qv (fun (_ : Unit) => True) (fun _ t => PW E b MC TC res TM t) (AA b)) args s 0 0 (AA b)) (F0 m 47 ls []) := by
  have hx := X.1
  have hb := X.2.1
  intro n
  induction n with
  | zero =>
    intro x1 M hf
    cases (show (none : Option (Mem)) = some res from hf)
  | succ n ih =>
    intro x1 M hf H locs ls hw hl
    rw [gX8_settles_47] at hf
    refine lv_iload_n hx hb dX8_settles_47 rfl (lv_at hl 1 rfl) ?_
    refine lv_bipush (v := 35) hx hb dX8_settles_48 (by decide) ?_
    refine lv_icmp_ge (tgt := 71) hx hb dX8_settles_50 (by decide) (fun c3 => ?_) (fun c3 => ?_)
    · replace hf := (if_pos c3).symm.trans hf
      refine lv_aload_n hx hb dX8_settles_71 rfl (lv_at hl 0 rfl) ?_
      refine lv_aload_n hx hb dX8_settles_72 rfl (lv_at hl 0 rfl) ?_
      refine gt_X8 X hw 25 kk_197 rfl (by decide) mw_746 rfl dX8_settles_73 ?_
      refine lv_if_ge (tgt := 84) hx hb dX8_settles_76 (by decide) (fun c4 => ?_) (fun c4 => ?_)
      · replace hf := (if_pos c4).symm.trans hf
        refine lv_aload_n hx hb dX8_settles_84 rfl (lv_at hl 0 rfl) ?_
        refine gt_X8 X hw 25 kk_197 rfl (by decide) mw_746 rfl dX8_settles_85 ?_
        exact tX8_settles_88 X hr hlk (M 197 25) M hf H locs ls hw (lv_sub hl [0] rfl)
      · replace hf := (if_neg c4).symm.trans hf
        refine lv_bipush (v := 12) hx hb dX8_settles_79 (by decide) ?_
        refine lv_goto (tgt := 88) hx hb dX8_settles_81 (by decide) ?_
        exact tX8_settles_88 X hr hlk 12 M hf H locs ls hw (lv_sub hl [0] rfl)
    · replace hf := (if_neg c3).symm.trans hf
      refine lv_aload_n hx hb dX8_settles_53 rfl (lv_at hl 0 rfl) ?_
      refine gt_X8 X hw 3 kk_197 rfl (by decide) mw_724 rfl dX8_settles_54 ?_
      refine lv_iload_n hx hb dX8_settles_57 rfl (lv_at hl 1 rfl) ?_
      refine lv_aload_n hx hb dX8_settles_58 rfl (lv_at hl 0 rfl) ?_
      refine gt_X8 X hw 24 kk_197 rfl (by decide) mw_745 rfl dX8_settles_59 ?_
      refine lv_iload_n hx hb dX8_settles_62 rfl (lv_at hl 1 rfl) ?_
      obtain ⟨v24, q25, hf⟩ := ob hf
      refine aldM X hw kdv_209 q25 dX8_settles_63 ?_
      obtain ⟨M26, q27, hf⟩ := ob hf
      refine astM X hw kdv_200 q27 dX8_settles_64 (fun H locs hw => ?_)
      obtain ⟨z28, ez28⟩ : ∃ y : Int32, y = x1 + 1 := ⟨_, rfl⟩
      replace hf := nmb hf ez28
      refine lv_iinc (v := z28) (lv' := [(1, .int z28), (0, .ref (b + 197))]) hx hb dX8_settles_65 hl (k := 1) rfl (by rw [ez28]; rfl) (by decide) rfl (fun ls hl => ?_)
      refine lv_goto (tgt := 47) hx hb dX8_settles_68 (by decide) ?_
      exact ih z28 M26 hf H locs ls hw (lv_sub hl [1, 0] rfl)
set_option maxHeartbeats 4000000 in
set_option maxRecDepth 100000 in
theorem tX8_settles_10 {p : Program} {l : Launch} {e : Env} {s : State} {m : MethodId} {args : Array Value} {below : List Frame} {meth : Method} {c : Code} {E : EE} {b : Nat} {MC : Mem} {TC : Int64} {TM : Int64} {res : Mem} (X : CX E p s m args c cX8_settles 2 RX8) (hr : meth.sig.returnType = none) (hlk : meth.locks = false)    : ∀ (n : Nat) (x1 : Int32) (M : Mem), gX8_settles_10 n x1 M = some res → ∀ (H : Heap) (locs : List Loc) (ls : Array Slot), WW E b MC TC M TM s H locs → lv_has ls 2 [(0, .ref (b + 197)), (1, .int x1)] → W p l e rmX8_settles s m args below meth c H locs 0 0 (MQ below (va_Qv (fun (_ : Unit) => True) (fun _ t => PW E b MC TC res TM t) (AA b)) args s 0 0 (AA b)) (F0 m 10 ls []) := by
  have hx := X.1
  have hb := X.2.1
  intro n
  induction n with
  | zero =>
    intro x1 M hf
    cases (show (none : Option (Mem)) = some res from hf)
  | succ n ih =>
    intro x1 M hf H locs ls hw hl
    rw [gX8_settles_10] at hf
    refine lv_iload_n hx hb dX8_settles_10 rfl (lv_at hl 1 rfl) ?_
    refine lv_iconst (v := 5) hx hb dX8_settles_11 (by decide) ?_
    refine lv_icmp_ge (tgt := 45) hx hb dX8_settles_12 (by decide) (fun c2 => ?_) (fun c2 => ?_)
    · replace hf := (if_pos c2).symm.trans hf
      refine lv_iconst (v := 0) hx hb dX8_settles_45 (by decide) ?_
      refine lv_istore_n (lv' := [(1, .int 0), (0, .ref (b + 197))]) hx hb dX8_settles_46 rfl hl (by decide) rfl (fun ls hl => ?_)
      exact tX8_settles_47 X hr hlk FU 0 M hf H locs ls hw (lv_sub hl [1, 0] rfl)
    · replace hf := (if_neg c2).symm.trans hf
      refine lv_aload_n hx hb dX8_settles_15 rfl (lv_at hl 0 rfl) ?_
      refine gt_X8 X hw 1 kk_197 rfl (by decide) mw_722 rfl dX8_settles_16 ?_
      refine lv_iload_n hx hb dX8_settles_19 rfl (lv_at hl 1 rfl) ?_
      refine lv_aload_n hx hb dX8_settles_20 rfl (lv_at hl 0 rfl) ?_
      refine gt_X8 X hw 22 kk_197 rfl (by decide) mw_743 rfl dX8_settles_21 ?_
      refine lv_iload_n hx hb dX8_settles_24 rfl (lv_at hl 1 rfl) ?_
      obtain ⟨v29, q30, hf⟩ := ob hf
      refine aldM X hw kdv_207 q30 dX8_settles_25 ?_
      obtain ⟨M31, q32, hf⟩ := ob hf
      refine astM X hw kdv_198 q32 dX8_settles_26 (fun H locs hw => ?_)
      refine lv_aload_n hx hb dX8_settles_27 rfl (lv_at hl 0 rfl) ?_
      refine gt_X8 X hw 2 kk_197 rfl (by decide) mw_723 rfl dX8_settles_28 ?_
      refine lv_iload_n hx hb dX8_settles_31 rfl (lv_at hl 1 rfl) ?_
      refine lv_aload_n hx hb dX8_settles_32 rfl (lv_at hl 0 rfl) ?_
      refine gt_X8 X hw 23 kk_197 rfl (by decide) mw_744 rfl dX8_settles_33 ?_
      refine lv_iload_n hx hb dX8_settles_36 rfl (lv_at hl 1 rfl) ?_
      obtain ⟨v33, q34, hf⟩ := ob hf
      refine aldM X hw kdv_208 q34 dX8_settles_37 ?_
      obtain ⟨M35, q36, hf⟩ := ob hf
      refine astM X hw kdv_199 q36 dX8_settles_38 (fun H locs hw => ?_)
      obtain ⟨z37, ez37⟩ : ∃ y : Int32, y = x1 + 1 := ⟨_, rfl⟩
      replace hf := nmb hf ez37
      refine lv_iinc (v := z37) (lv' := [(1, .int z37), (0, .ref (b + 197))]) hx hb dX8_settles_39 hl (k := 1) rfl (by rw [ez37]; rfl) (by decide) rfl (fun ls hl => ?_)
      refine lv_goto (tgt := 10) hx hb dX8_settles_42 (by decide) ?_
      exact ih z37 M35 hf H locs ls hw (lv_sub hl [1, 0] rfl)
set_option maxHeartbeats 4000000 in
set_option maxRecDepth 100000 in
theorem ctX8_settles (l : Launch) (E : EE) (b : Nat) {MC : Mem} {TC : Int64} {TM : Int64} {M : Mem} {res : Mem}  (hf : gX8_settles M = some res) : MetV l E b yX8_settles (.code yX8_settles cX8_settles 2 none) rmX8_settles [.ref (b + 197)] MC TC M TM MC TC res TM := by
  refine Met.ofW (cc := cX8_settles) (maxL := 2) (ret := none) (by decide) rfl ?_
  intro p e s m args below meth c s₁ B hml hv
  obtain ⟨rfl, hP, hK⟩ := hv
  have hx := B.exec
  have hb := B.bytes
  have X : CX E p s m _ c cX8_settles 2 RX8 := ⟨hx, hb, hml, findClass_of_methodNamed B.named, fun w h => atoms_spec (ws := _ :: wt) B.pre w (List.mem_cons_of_mem _ h), hK⟩
  have hr := B.returns
  have hlk := B.notSynchronized
  have hw : WW E b MC TC M TM s s.heap [] := ⟨hP, va_S.rf⟩
  have hl := lv_entry ([.ref (b + 197)]) (n := 2) (Nat.le_of_ble_eq_true rfl)
  rw [lg_entry_eq]
  generalize (lg_sl ([.ref (b + 197)]) ++ List.replicate (2 - (lg_sl ([.ref (b + 197)])).length) Slot.unset).toArray = ls at hl ⊢
  have hl : lv_has ls 2 [(0, .ref (b + 197))] := hl
  obtain ⟨H, hH⟩ : ∃ H, H = s.heap := ⟨_, rfl⟩
  obtain ⟨locs, hL⟩ : ∃ L : List Loc, L = [] := ⟨_, rfl⟩
  rw [← hH, ← hL] at hw
  suffices hg : W p l e rmX8_settles s m _ below meth c H locs 0 0 (MQ below (va_Qv (fun (_ : Unit) => True) (fun _ t => PW E b MC TC res TM t) (AA b)) _ s 0 0 (AA b)) (F0 m 0 ls []) by rw [hH, hL] at hg; exact hg
  clear hH hL
  rw [gX8_settles] at hf
  refine lv_aload_n hx hb dX8_settles_0 rfl (lv_at hl 0 rfl) ?_
  refine lv_aload_n hx hb dX8_settles_1 rfl (lv_at hl 0 rfl) ?_
  refine gt_X8 X hw 21 kk_197 rfl (by decide) mw_742 rfl dX8_settles_2 ?_
  obtain ⟨M1, eM1, hf⟩ := ob hf
  refine pt_X8_0 X hw kk_197 mw_721 dX8_settles_5 (fun H locs hw => ?_)
  rw [Option.some.inj eM1] at hw
  refine lv_iconst (v := 0) hx hb dX8_settles_8 (by decide) ?_
  refine lv_istore_n (lv' := [(1, .int 0), (0, .ref (b + 197))]) hx hb dX8_settles_9 rfl hl (by decide) rfl (fun ls hl => ?_)
  exact tX8_settles_10 X hr hlk FU 0 M1 hf H locs ls hw (lv_sub hl [1, 0] rfl)

abbrev rmX8_shop : Room := { frames := 6, cells := 0, slots := 0, locals := 130 }
theorem hd_X8_shop : Hd yX8_shop RX8 0 := by decide +kernel
def gX8_shop_65   (M : Mem) : Option (Int32 × Mem) := if (M 197 19) = 0 then ((gX8_settles M).bind fun u48 => some (u48 197 20, u48)) else (some (((-10)) - (M 197 16), M))
def gX8_shop_34   : Nat → Mem → Option (Int32 × Mem)
  | 0, _ => none
  | n + 1, M => if (M 197 17) = 0 then (gX8_shop_65 M) else (if (M 197 19) = 0 then ((gX8_readItem M).bind fun u51 => (some (us u51 197 20 ((u51 197 20) + 1))).bind fun M53 => (gX8_shop_34 n) M53) else (gX8_shop_65 M))
def gX8_shop (M : Mem) : Option (Int32 × Mem) := (some (us M 197 15 0)).bind fun M38 => (some (us M38 197 19 0)).bind fun M39 => (some (us M39 197 20 0)).bind fun M40 => (some (us M40 197 21 0)).bind fun M41 => (some (us M41 197 25 ((-1)))).bind fun M42 => (some (us M42 197 26 ((-1)))).bind fun M43 => (gX8_next M43).bind fun u44 => gX8_shop_34 FU u44
set_option maxHeartbeats 4000000 in
set_option maxRecDepth 100000 in
theorem tX8_shop_65 {p : Program} {l : Launch} {e : Env} {s : State} {m : MethodId} {args : Array Value} {below : List Frame} {meth : Method} {c : Code} {E : EE} {b : Nat} {MC : Mem} {TC : Int64} {TM : Int64} {res : Int32 × Mem} (X : CX E p s m args c cX8_shop 1 RX8) (hr : meth.sig.returnType = (some .int)) (hlk : meth.locks = false)    : ∀ (M : Mem), gX8_shop_65 M = some res → ∀ (H : Heap) (locs : List Loc) (ls : Array Slot), WW E b MC TC M TM s H locs → lv_has ls 1 [(0, .ref (b + 197))] → W p l e rmX8_shop s m args below meth c H locs 0 0 (MQ below (va_Qi (fun x (_ : Unit) => x = res.1) (fun _ t => PW E b MC TC res.2 TM t) (AA b)) args s 0 0 (AA b)) (F0 m 65 ls []) := by
  have hx := X.1
  have hb := X.2.1
  intro M hf H locs ls hw hl
  rw [gX8_shop_65] at hf
  refine lv_aload_n hx hb dX8_shop_65 rfl (lv_at hl 0 rfl) ?_
  refine gt_X8 X hw 19 kk_197 rfl (by decide) mw_740 rfl dX8_shop_66 ?_
  refine lv_if_eq (tgt := 80) hx hb dX8_shop_69 (by decide) (fun c47 => ?_) (fun c47 => ?_)
  · replace hf := (if_pos c47).symm.trans hf
    refine lv_aload_n hx hb dX8_shop_80 rfl (lv_at hl 0 rfl) ?_
    obtain ⟨u48, q49, hf⟩ := ob hf
    refine cVv (As := []) X hw (ctX8_settles l E b  q49) ⟨mw_860, mw_862, mw_36, mw_61, mw_863⟩ hd_X8_settles ⟨Nat.le_of_ble_eq_true rfl, Nat.le_of_ble_eq_true rfl, rfl, rfl⟩ (kdk kk_197 (by decide)) (ce_X8 E _ _ _ _ kk_197) (show vwCl[8]? = some (RX8, TX8, 31) from rfl) rfl hl.1 rfl (Nat.le_of_ble_eq_true rfl) dX8_shop_81 (fun H locs hw => ?_)
    refine lv_aload_n hx hb dX8_shop_84 rfl (lv_at hl 0 rfl) ?_
    refine gt_X8 X hw 20 kk_197 rfl (by decide) mw_741 rfl dX8_shop_85 ?_
    replace hf := Option.some.inj hf
    subst hf
    exact eI X hw hr hlk dX8_shop_88
  · replace hf := (if_neg c47).symm.trans hf
    refine lv_bipush (v := (-10)) hx hb dX8_shop_72 (by decide) ?_
    refine lv_aload_n hx hb dX8_shop_74 rfl (lv_at hl 0 rfl) ?_
    refine gt_X8 X hw 16 kk_197 rfl (by decide) mw_737 rfl dX8_shop_75 ?_
    refine lv_isub hx hb dX8_shop_78 ?_
    replace hf := Option.some.inj hf
    subst hf
    exact eI X hw hr hlk dX8_shop_79
set_option maxHeartbeats 4000000 in
set_option maxRecDepth 100000 in
theorem tX8_shop_34 {p : Program} {l : Launch} {e : Env} {s : State} {m : MethodId} {args : Array Value} {below : List Frame} {meth : Method} {c : Code} {E : EE} {b : Nat} {MC : Mem} {TC : Int64} {TM : Int64} {res : Int32 × Mem} (X : CX E p s m args c cX8_shop 1 RX8) (hr : meth.sig.returnType = (some .int)) (hlk : meth.locks = false)    : ∀ (n : Nat) (M : Mem), gX8_shop_34 n M = some res → ∀ (H : Heap) (locs : List Loc) (ls : Array Slot), WW E b MC TC M TM s H locs → lv_has ls 1 [(0, .ref (b + 197))] → W p l e rmX8_shop s m args below meth c H locs 0 0 (MQ below (va_Qi (fun x (_ : Unit) => x = res.1) (fun _ t => PW E b MC TC res.2 TM t) (AA b)) args s 0 0 (AA b)) (F0 m 34 ls []) := by
  have hx := X.1
  have hb := X.2.1
  intro n
  induction n with
  | zero =>
    intro M hf
    cases (show (none : Option (Int32 × Mem)) = some res from hf)
  | succ n ih =>
    intro M hf H locs ls hw hl
    rw [gX8_shop_34] at hf
    refine lv_aload_n hx hb dX8_shop_34 rfl (lv_at hl 0 rfl) ?_
    refine gt_X8 X hw 17 kk_197 rfl (by decide) mw_738 rfl dX8_shop_35 ?_
    refine lv_if_eq (tgt := 65) hx hb dX8_shop_38 (by decide) (fun c46 => ?_) (fun c46 => ?_)
    · replace hf := (if_pos c46).symm.trans hf
      exact tX8_shop_65 X hr hlk M hf H locs ls hw (lv_sub hl [0] rfl)
    · replace hf := (if_neg c46).symm.trans hf
      refine lv_aload_n hx hb dX8_shop_41 rfl (lv_at hl 0 rfl) ?_
      refine gt_X8 X hw 19 kk_197 rfl (by decide) mw_740 rfl dX8_shop_42 ?_
      refine lv_if_ne (tgt := 65) hx hb dX8_shop_45 (by decide) (fun c50 => ?_) (fun c50 => ?_)
      · replace hf := (if_neg c50).symm.trans hf
        exact tX8_shop_65 X hr hlk M hf H locs ls hw (lv_sub hl [0] rfl)
      · replace hf := (if_pos c50).symm.trans hf
        refine lv_aload_n hx hb dX8_shop_48 rfl (lv_at hl 0 rfl) ?_
        obtain ⟨u51, q52, hf⟩ := ob hf
        refine cVv (As := []) X hw (ctX8_readItem l E b  q52) ⟨mw_844, mw_846, mw_32, mw_61, mw_847⟩ hd_X8_readItem ⟨Nat.le_of_ble_eq_true rfl, Nat.le_of_ble_eq_true rfl, rfl, rfl⟩ (kdk kk_197 (by decide)) (ce_X8 E _ _ _ _ kk_197) (show vwCl[8]? = some (RX8, TX8, 31) from rfl) rfl hl.1 rfl (Nat.le_of_ble_eq_true rfl) dX8_shop_49 (fun H locs hw => ?_)
        refine lv_aload_n hx hb dX8_shop_52 rfl (lv_at hl 0 rfl) ?_
        refine lv_dup hx hb dX8_shop_53 rfl ?_
        refine gt_X8 X hw 20 kk_197 rfl (by decide) mw_741 rfl dX8_shop_54 ?_
        refine lv_iconst (v := 1) hx hb dX8_shop_57 (by decide) ?_
        refine lv_iadd hx hb dX8_shop_58 ?_
        obtain ⟨M53, eM53, hf⟩ := ob hf
        refine pt_X8_20 X hw kk_197 mw_741 dX8_shop_59 (fun H locs hw => ?_)
        rw [Option.some.inj eM53] at hw
        refine lv_goto (tgt := 34) hx hb dX8_shop_62 (by decide) ?_
        exact ih M53 hf H locs ls hw (lv_sub hl [0] rfl)
set_option maxHeartbeats 4000000 in
set_option maxRecDepth 100000 in
theorem ctX8_shop (l : Launch) (E : EE) (b : Nat) {MC : Mem} {TC : Int64} {TM : Int64} {M : Mem} {res : Int32 × Mem}  (hf : gX8_shop M = some res) : MetI l E b yX8_shop (.code yX8_shop cX8_shop 1 (some .int)) rmX8_shop [.ref (b + 197)] MC TC M TM res.1 MC TC res.2 TM := by
  refine Met.ofW (cc := cX8_shop) (maxL := 1) (ret := (some .int)) (by decide) rfl ?_
  intro p e s m args below meth c s₁ B hml hv
  obtain ⟨rfl, hP, hK⟩ := hv
  have hx := B.exec
  have hb := B.bytes
  have X : CX E p s m _ c cX8_shop 1 RX8 := ⟨hx, hb, hml, findClass_of_methodNamed B.named, fun w h => atoms_spec (ws := _ :: wt) B.pre w (List.mem_cons_of_mem _ h), hK⟩
  have hr := B.returns
  have hlk := B.notSynchronized
  have hw : WW E b MC TC M TM s s.heap [] := ⟨hP, va_S.rf⟩
  have hl := lv_entry ([.ref (b + 197)]) (n := 1) (Nat.le_of_ble_eq_true rfl)
  rw [lg_entry_eq]
  generalize (lg_sl ([.ref (b + 197)]) ++ List.replicate (1 - (lg_sl ([.ref (b + 197)])).length) Slot.unset).toArray = ls at hl ⊢
  have hl : lv_has ls 1 [(0, .ref (b + 197))] := hl
  obtain ⟨H, hH⟩ : ∃ H, H = s.heap := ⟨_, rfl⟩
  obtain ⟨locs, hL⟩ : ∃ L : List Loc, L = [] := ⟨_, rfl⟩
  rw [← hH, ← hL] at hw
  suffices hg : W p l e rmX8_shop s m _ below meth c H locs 0 0 (MQ below (va_Qi (fun x (_ : Unit) => x = res.1) (fun _ t => PW E b MC TC res.2 TM t) (AA b)) _ s 0 0 (AA b)) (F0 m 0 ls []) by rw [hH, hL] at hg; exact hg
  clear hH hL
  rw [gX8_shop] at hf
  refine lv_aload_n hx hb dX8_shop_0 rfl (lv_at hl 0 rfl) ?_
  refine lv_iconst (v := 0) hx hb dX8_shop_1 (by decide) ?_
  obtain ⟨M38, eM38, hf⟩ := ob hf
  refine pt_X8_15 X hw kk_197 mw_736 dX8_shop_2 (fun H locs hw => ?_)
  rw [Option.some.inj eM38] at hw
  refine lv_aload_n hx hb dX8_shop_5 rfl (lv_at hl 0 rfl) ?_
  refine lv_iconst (v := 0) hx hb dX8_shop_6 (by decide) ?_
  obtain ⟨M39, eM39, hf⟩ := ob hf
  refine pt_X8_19 X hw kk_197 (by decide) mw_740 dX8_shop_7 (fun H locs hw => ?_)
  rw [Option.some.inj eM39] at hw
  refine lv_aload_n hx hb dX8_shop_10 rfl (lv_at hl 0 rfl) ?_
  refine lv_iconst (v := 0) hx hb dX8_shop_11 (by decide) ?_
  obtain ⟨M40, eM40, hf⟩ := ob hf
  refine pt_X8_20 X hw kk_197 mw_741 dX8_shop_12 (fun H locs hw => ?_)
  rw [Option.some.inj eM40] at hw
  refine lv_aload_n hx hb dX8_shop_15 rfl (lv_at hl 0 rfl) ?_
  refine lv_iconst (v := 0) hx hb dX8_shop_16 (by decide) ?_
  obtain ⟨M41, eM41, hf⟩ := ob hf
  refine pt_X8_21 X hw kk_197 mw_742 dX8_shop_17 (fun H locs hw => ?_)
  rw [Option.some.inj eM41] at hw
  refine lv_aload_n hx hb dX8_shop_20 rfl (lv_at hl 0 rfl) ?_
  refine lv_iconst (v := (-1)) hx hb dX8_shop_21 (by decide) ?_
  obtain ⟨M42, eM42, hf⟩ := ob hf
  refine pt_X8_25 X hw kk_197 mw_746 dX8_shop_22 (fun H locs hw => ?_)
  rw [Option.some.inj eM42] at hw
  refine lv_aload_n hx hb dX8_shop_25 rfl (lv_at hl 0 rfl) ?_
  refine lv_iconst (v := (-1)) hx hb dX8_shop_26 (by decide) ?_
  obtain ⟨M43, eM43, hf⟩ := ob hf
  refine pt_X8_26 X hw kk_197 mw_747 dX8_shop_27 (fun H locs hw => ?_)
  rw [Option.some.inj eM43] at hw
  refine lv_aload_n hx hb dX8_shop_30 rfl (lv_at hl 0 rfl) ?_
  obtain ⟨u44, q45, hf⟩ := ob hf
  refine cVv (As := []) X hw (ctX8_next l E b  q45) ⟨mw_830, mw_832, mw_30, mw_61, mw_833⟩ hd_X8_next ⟨Nat.le_of_ble_eq_true rfl, Nat.le_of_ble_eq_true rfl, rfl, rfl⟩ (kdk kk_197 (by decide)) (ce_X8 E _ _ _ _ kk_197) (show vwCl[8]? = some (RX8, TX8, 31) from rfl) rfl hl.1 rfl (Nat.le_of_ble_eq_true rfl) dX8_shop_31 (fun H locs hw => ?_)
  exact tX8_shop_34 X hr hlk FU u44 hf H locs ls hw (lv_sub hl [0] rfl)

abbrev rmX8_layerOf : Room := { frames := 0, cells := 0, slots := 0, locals := 0 }
theorem hd_X8_layerOf : Hd yX8_layerOf RX8 2 := by decide +kernel
def gX8_layerOf (x1 : Int32) (x2 : Int32) (M : Mem) : Option (Int32) := (ldA 1233 (M 201) ((7 + (12 * x1)) + x2)).bind fun v54 => some (v54)
set_option maxHeartbeats 4000000 in
set_option maxRecDepth 100000 in
theorem ctX8_layerOf (l : Launch) (E : EE) (b : Nat) {MC : Mem} {TC : Int64} {TM : Int64} {x1 : Int32} {x2 : Int32} {M : Mem} {res : Int32}  (hf : gX8_layerOf x1 x2 M = some res) : MetI l E b yX8_layerOf (.code yX8_layerOf cX8_layerOf 3 (some .int)) rmX8_layerOf [.ref (b + 197), .int x1, .int x2] MC TC M TM res MC TC M TM := by
  refine Met.ofW (cc := cX8_layerOf) (maxL := 3) (ret := (some .int)) (by decide) rfl ?_
  intro p e s m args below meth c s₁ B hml hv
  obtain ⟨rfl, hP, hK⟩ := hv
  have hx := B.exec
  have hb := B.bytes
  have X : CX E p s m _ c cX8_layerOf 3 RX8 := ⟨hx, hb, hml, findClass_of_methodNamed B.named, fun w h => atoms_spec (ws := _ :: wt) B.pre w (List.mem_cons_of_mem _ h), hK⟩
  have hr := B.returns
  have hlk := B.notSynchronized
  have hw : WW E b MC TC M TM s s.heap [] := ⟨hP, va_S.rf⟩
  have hl := lv_entry ([.ref (b + 197), .int x1, .int x2]) (n := 3) (Nat.le_of_ble_eq_true rfl)
  rw [lg_entry_eq]
  generalize (lg_sl ([.ref (b + 197), .int x1, .int x2]) ++ List.replicate (3 - (lg_sl ([.ref (b + 197), .int x1, .int x2])).length) Slot.unset).toArray = ls at hl ⊢
  have hl : lv_has ls 3 [(0, .ref (b + 197)), (1, .int x1), (2, .int x2)] := hl
  obtain ⟨H, hH⟩ : ∃ H, H = s.heap := ⟨_, rfl⟩
  obtain ⟨locs, hL⟩ : ∃ L : List Loc, L = [] := ⟨_, rfl⟩
  rw [← hH, ← hL] at hw
  suffices hg : W p l e rmX8_layerOf s m _ below meth c H locs 0 0 (MQ below (va_Qi (fun x (_ : Unit) => x = res) (fun _ t => PW E b MC TC M TM t) (AA b)) _ s 0 0 (AA b)) (F0 m 0 ls []) by rw [hH, hL] at hg; exact hg
  clear hH hL
  rw [gX8_layerOf] at hf
  refine lv_aload_n hx hb dX8_layerOf_0 rfl (lv_at hl 0 rfl) ?_
  refine gt_X8 X hw 5 kk_197 rfl (by decide) mw_726 rfl dX8_layerOf_1 ?_
  refine lv_bipush (v := 7) hx hb dX8_layerOf_4 (by decide) ?_
  refine lv_bipush (v := 12) hx hb dX8_layerOf_6 (by decide) ?_
  refine lv_iload_n hx hb dX8_layerOf_8 rfl (lv_at hl 1 rfl) ?_
  refine lv_imul hx hb dX8_layerOf_9 ?_
  refine lv_iadd hx hb dX8_layerOf_10 ?_
  refine lv_iload_n hx hb dX8_layerOf_11 rfl (lv_at hl 2 rfl) ?_
  refine lv_iadd hx hb dX8_layerOf_12 ?_
  obtain ⟨v54, q55, hf⟩ := ob hf
  refine aldM X hw kdv_201 q55 dX8_layerOf_13 ?_
  replace hf := Option.some.inj hf
  subst hf
  exact eI X hw hr hlk dX8_layerOf_14

abbrev rmX8_layersOf : Room := { frames := 1, cells := 0, slots := 0, locals := 22 }
theorem hd_X8_layersOf : Hd yX8_layersOf RX8 2 := by decide +kernel
def gX8_layersOf_35  (k5 : Int32 → Int32 → Int32 → Int32 → Mem → Option (Int32)) (x1 : Int32) (x2 : Int32) (x4 : Int32) (y0 : Int32) (y1 : Int32) (M : Mem) : Option (Int32) := (some (y1 + y0)).bind fun z62 => (some (x4 + 1)).bind fun z63 => k5 x1 x2 z62 z63 M
def gX8_layersOf_5   : Nat → Int32 → Int32 → Int32 → Int32 → Mem → Option (Int32)
  | 0, _, _, _, _, _ => none
  | n + 1, x1, x2, x3, x4, M => (ldA 1233 (M 201) (2 + x1)).bind fun v56 => if v56 ≤ x4 then (some (x3)) else ((gX8_layerOf x1 x4 M).bind fun u59 => if u59 = x2 then (gX8_layersOf_35 (gX8_layersOf_5 n) x1 x2 x4 1 x3 M) else (gX8_layersOf_35 (gX8_layersOf_5 n) x1 x2 x4 0 x3 M))
def gX8_layersOf (x1 : Int32) (x2 : Int32) (M : Mem) : Option (Int32) := gX8_layersOf_5 FU x1 x2 0 0 M
set_option maxHeartbeats 4000000 in
set_option maxRecDepth 100000 in
theorem tX8_layersOf_35 {p : Program} {l : Launch} {e : Env} {s : State} {m : MethodId} {args : Array Value} {below : List Frame} {meth : Method} {c : Code} {E : EE} {b : Nat} {MC : Mem} {TC : Int64} {TM : Int64} {res : Int32} (X : CX E p s m args c cX8_layersOf 5 RX8) (hr : meth.sig.returnType = (some .int)) (hlk : meth.locks = false)   {k5 : Int32 → Int32 → Int32 → Int32 → Mem → Option (Int32)} (hk5 : ∀ (x1 : Int32) (x2 : Int32) (x3 : Int32) (x4 : Int32) (M : Mem), k5 x1 x2 x3 x4 M = some res → ∀ (H : Heap) (locs : List Loc) (ls : Array Slot), WW E b MC TC M TM s H locs → lv_has ls 5 [(0, .ref (b + 197)), (1, .int x1), (2, .int x2), (3, .int x3), (4, .int x4)] → W p l e rmX8_layersOf s m args below meth c H locs 0 0 (MQ below (va_Qi (fun x (_ : Unit) => x = res) (fun _ t => PW E b MC TC M TM t) (AA b)) args s 0 0 (AA b)) (F0 m 5 ls [])) : ∀ (x1 : Int32) (x2 : Int32) (x4 : Int32) (y0 : Int32) (y1 : Int32) (M : Mem), gX8_layersOf_35 k5 x1 x2 x4 y0 y1 M = some res → ∀ (H : Heap) (locs : List Loc) (ls : Array Slot), WW E b MC TC M TM s H locs → lv_has ls 5 [(0, .ref (b + 197)), (1, .int x1), (2, .int x2), (4, .int x4)] → W p l e rmX8_layersOf s m args below meth c H locs 0 0 (MQ below (va_Qi (fun x (_ : Unit) => x = res) (fun _ t => PW E b MC TC M TM t) (AA b)) args s 0 0 (AA b)) (F0 m 35 ls [.int y0, .int y1]) := by
  have hx := X.1
  have hb := X.2.1
  intro x1 x2 x4 y0 y1 M hf H locs ls hw hl
  rw [gX8_layersOf_35] at hf
  refine lv_iadd hx hb dX8_layersOf_35 ?_
  refine lv_topi (fun z62 ez62 => ?_)
  replace hf := nmb hf ez62
  refine lv_istore_n (lv' := [(3, .int z62), (0, .ref (b + 197)), (1, .int x1), (2, .int x2), (4, .int x4)]) hx hb dX8_layersOf_36 rfl hl (by decide) rfl (fun ls hl => ?_)
  obtain ⟨z63, ez63⟩ : ∃ y : Int32, y = x4 + 1 := ⟨_, rfl⟩
  replace hf := nmb hf ez63
  refine lv_iinc (v := z63) (lv' := [(4, .int z63), (3, .int z62), (0, .ref (b + 197)), (1, .int x1), (2, .int x2)]) hx hb dX8_layersOf_37 hl (k := 4) rfl (by rw [ez63]; rfl) (by decide) rfl (fun ls hl => ?_)
  refine lv_goto (tgt := 5) hx hb dX8_layersOf_40 (by decide) ?_
  exact hk5 x1 x2 z62 z63 M hf H locs ls hw (lv_sub hl [2, 3, 4, 1, 0] rfl)
set_option maxHeartbeats 4000000 in
set_option maxRecDepth 100000 in
theorem tX8_layersOf_5 {p : Program} {l : Launch} {e : Env} {s : State} {m : MethodId} {args : Array Value} {below : List Frame} {meth : Method} {c : Code} {E : EE} {b : Nat} {MC : Mem} {TC : Int64} {TM : Int64} {res : Int32} (X : CX E p s m args c cX8_layersOf 5 RX8) (hr : meth.sig.returnType = (some .int)) (hlk : meth.locks = false)    : ∀ (n : Nat) (x1 : Int32) (x2 : Int32) (x3 : Int32) (x4 : Int32) (M : Mem), gX8_layersOf_5 n x1 x2 x3 x4 M = some res → ∀ (H : Heap) (locs : List Loc) (ls : Array Slot), WW E b MC TC M TM s H locs → lv_has ls 5 [(0, .ref (b + 197)), (1, .int x1), (2, .int x2), (3, .int x3), (4, .int x4)] → W p l e rmX8_layersOf s m args below meth c H locs 0 0 (MQ below (va_Qi (fun x (_ : Unit) => x = res) (fun _ t => PW E b MC TC M TM t) (AA b)) args s 0 0 (AA b)) (F0 m 5 ls []) := by
  have hx := X.1
  have hb := X.2.1
  intro n
  induction n with
  | zero =>
    intro x1 x2 x3 x4 M hf
    cases (show (none : Option (Int32)) = some res from hf)
  | succ n ih =>
    intro x1 x2 x3 x4 M hf H locs ls hw hl
    rw [gX8_layersOf_5] at hf
    refine lv_iload hx hb dX8_layersOf_5 (lv_at hl 4 rfl) ?_
    refine lv_aload_n hx hb dX8_layersOf_7 rfl (lv_at hl 0 rfl) ?_
    refine gt_X8 X hw 5 kk_197 rfl (by decide) mw_726 rfl dX8_layersOf_8 ?_
    refine lv_iconst (v := 2) hx hb dX8_layersOf_11 (by decide) ?_
    refine lv_iload_n hx hb dX8_layersOf_12 rfl (lv_at hl 1 rfl) ?_
    refine lv_iadd hx hb dX8_layersOf_13 ?_
    obtain ⟨v56, q57, hf⟩ := ob hf
    refine aldM X hw kdv_201 q57 dX8_layersOf_14 ?_
    refine lv_icmp_ge (tgt := 43) hx hb dX8_layersOf_15 (by decide) (fun c58 => ?_) (fun c58 => ?_)
    · replace hf := (if_pos c58).symm.trans hf
      refine lv_iload_n hx hb dX8_layersOf_43 rfl (lv_at hl 3 rfl) ?_
      replace hf := Option.some.inj hf
      subst hf
      exact eI X hw hr hlk dX8_layersOf_44
    · replace hf := (if_neg c58).symm.trans hf
      refine lv_iload_n hx hb dX8_layersOf_18 rfl (lv_at hl 3 rfl) ?_
      refine lv_aload_n hx hb dX8_layersOf_19 rfl (lv_at hl 0 rfl) ?_
      refine lv_iload_n hx hb dX8_layersOf_20 rfl (lv_at hl 1 rfl) ?_
      refine lv_iload hx hb dX8_layersOf_21 (lv_at hl 4 rfl) ?_
      obtain ⟨u59, q60, hf⟩ := ob hf
      refine cVi (As := [.int x1, .int x4]) X hw (ctX8_layerOf l E b  q60) ⟨mw_876, mw_878, mw_39, mw_61, mw_879⟩ hd_X8_layerOf ⟨Nat.le_of_ble_eq_true rfl, Nat.le_of_ble_eq_true rfl, rfl, rfl⟩ (kdk kk_197 (by decide)) (ce_X8 E _ _ _ _ kk_197) (show vwCl[8]? = some (RX8, TX8, 31) from rfl) rfl hl.1 rfl (Nat.le_of_ble_eq_true rfl) dX8_layersOf_23 (fun H locs hw => ?_)
      refine lv_iload_n hx hb dX8_layersOf_26 rfl (lv_at hl 2 rfl) ?_
      refine lv_icmp_ne (tgt := 34) hx hb dX8_layersOf_27 (by decide) (fun c61 => ?_) (fun c61 => ?_)
      · replace hf := (if_neg c61).symm.trans hf
        refine lv_iconst (v := 0) hx hb dX8_layersOf_34 (by decide) ?_
        exact tX8_layersOf_35 X hr hlk ih x1 x2 x4 0 x3 M hf H locs ls hw (lv_sub hl [0, 1, 2, 4] rfl)
      · replace hf := (if_pos c61).symm.trans hf
        refine lv_iconst (v := 1) hx hb dX8_layersOf_30 (by decide) ?_
        refine lv_goto (tgt := 35) hx hb dX8_layersOf_31 (by decide) ?_
        exact tX8_layersOf_35 X hr hlk ih x1 x2 x4 1 x3 M hf H locs ls hw (lv_sub hl [0, 1, 2, 4] rfl)
set_option maxHeartbeats 4000000 in
set_option maxRecDepth 100000 in
theorem ctX8_layersOf (l : Launch) (E : EE) (b : Nat) {MC : Mem} {TC : Int64} {TM : Int64} {x1 : Int32} {x2 : Int32} {M : Mem} {res : Int32}  (hf : gX8_layersOf x1 x2 M = some res) : MetI l E b yX8_layersOf (.code yX8_layersOf cX8_layersOf 5 (some .int)) rmX8_layersOf [.ref (b + 197), .int x1, .int x2] MC TC M TM res MC TC M TM := by
  refine Met.ofW (cc := cX8_layersOf) (maxL := 5) (ret := (some .int)) (by decide) rfl ?_
  intro p e s m args below meth c s₁ B hml hv
  obtain ⟨rfl, hP, hK⟩ := hv
  have hx := B.exec
  have hb := B.bytes
  have X : CX E p s m _ c cX8_layersOf 5 RX8 := ⟨hx, hb, hml, findClass_of_methodNamed B.named, fun w h => atoms_spec (ws := _ :: wt) B.pre w (List.mem_cons_of_mem _ h), hK⟩
  have hr := B.returns
  have hlk := B.notSynchronized
  have hw : WW E b MC TC M TM s s.heap [] := ⟨hP, va_S.rf⟩
  have hl := lv_entry ([.ref (b + 197), .int x1, .int x2]) (n := 5) (Nat.le_of_ble_eq_true rfl)
  rw [lg_entry_eq]
  generalize (lg_sl ([.ref (b + 197), .int x1, .int x2]) ++ List.replicate (5 - (lg_sl ([.ref (b + 197), .int x1, .int x2])).length) Slot.unset).toArray = ls at hl ⊢
  have hl : lv_has ls 5 [(0, .ref (b + 197)), (1, .int x1), (2, .int x2)] := hl
  obtain ⟨H, hH⟩ : ∃ H, H = s.heap := ⟨_, rfl⟩
  obtain ⟨locs, hL⟩ : ∃ L : List Loc, L = [] := ⟨_, rfl⟩
  rw [← hH, ← hL] at hw
  suffices hg : W p l e rmX8_layersOf s m _ below meth c H locs 0 0 (MQ below (va_Qi (fun x (_ : Unit) => x = res) (fun _ t => PW E b MC TC M TM t) (AA b)) _ s 0 0 (AA b)) (F0 m 0 ls []) by rw [hH, hL] at hg; exact hg
  clear hH hL
  rw [gX8_layersOf] at hf
  refine lv_iconst (v := 0) hx hb dX8_layersOf_0 (by decide) ?_
  refine lv_istore_n (lv' := [(3, .int 0), (0, .ref (b + 197)), (1, .int x1), (2, .int x2)]) hx hb dX8_layersOf_1 rfl hl (by decide) rfl (fun ls hl => ?_)
  refine lv_iconst (v := 0) hx hb dX8_layersOf_2 (by decide) ?_
  refine lv_istore (lv' := [(4, .int 0), (3, .int 0), (0, .ref (b + 197)), (1, .int x1), (2, .int x2)]) hx hb dX8_layersOf_3 hl (by decide) rfl (fun ls hl => ?_)
  exact tX8_layersOf_5 X hr hlk FU x1 x2 0 0 M hf H locs ls hw (lv_sub hl [2, 3, 4, 1, 0] rfl)

abbrev rmX8_inJar : Room := { frames := 0, cells := 0, slots := 0, locals := 0 }
theorem hd_X8_inJar : Hd yX8_inJar RX8 1 := by decide +kernel
def gX8_inJar_4   : Nat → Int32 → Int32 → Int32 → Mem → Option (Int32)
  | 0, _, _, _, _ => none
  | n + 1, x1, x2, x3, M => if 10 ≤ x3 then (some (x2)) else ((ldA 1233 (M 201) ((72 + (10 * x1)) + x3)).bind fun v65 => (some (x2 + v65)).bind fun z67 => (some (x3 + 1)).bind fun z68 => (gX8_inJar_4 n) x1 z67 z68 M)
def gX8_inJar (x1 : Int32) (M : Mem) : Option (Int32) := gX8_inJar_4 FU x1 0 0 M
set_option maxHeartbeats 4000000 in
set_option maxRecDepth 100000 in
theorem tX8_inJar_4 {p : Program} {l : Launch} {e : Env} {s : State} {m : MethodId} {args : Array Value} {below : List Frame} {meth : Method} {c : Code} {E : EE} {b : Nat} {MC : Mem} {TC : Int64} {TM : Int64} {res : Int32} (X : CX E p s m args c cX8_inJar 4 RX8) (hr : meth.sig.returnType = (some .int)) (hlk : meth.locks = false)    : ∀ (n : Nat) (x1 : Int32) (x2 : Int32) (x3 : Int32) (M : Mem), gX8_inJar_4 n x1 x2 x3 M = some res → ∀ (H : Heap) (locs : List Loc) (ls : Array Slot), WW E b MC TC M TM s H locs → lv_has ls 4 [(0, .ref (b + 197)), (1, .int x1), (2, .int x2), (3, .int x3)] → W p l e rmX8_inJar s m args below meth c H locs 0 0 (MQ below (va_Qi (fun x (_ : Unit) => x = res) (fun _ t => PW E b MC TC M TM t) (AA b)) args s 0 0 (AA b)) (F0 m 4 ls []) := by
  have hx := X.1
  have hb := X.2.1
  intro n
  induction n with
  | zero =>
    intro x1 x2 x3 M hf
    cases (show (none : Option (Int32)) = some res from hf)
  | succ n ih =>
    intro x1 x2 x3 M hf H locs ls hw hl
    rw [gX8_inJar_4] at hf
    refine lv_iload_n hx hb dX8_inJar_4 rfl (lv_at hl 3 rfl) ?_
    refine lv_bipush (v := 10) hx hb dX8_inJar_5 (by decide) ?_
    refine lv_icmp_ge (tgt := 33) hx hb dX8_inJar_7 (by decide) (fun c64 => ?_) (fun c64 => ?_)
    · replace hf := (if_pos c64).symm.trans hf
      refine lv_iload_n hx hb dX8_inJar_33 rfl (lv_at hl 2 rfl) ?_
      replace hf := Option.some.inj hf
      subst hf
      exact eI X hw hr hlk dX8_inJar_34
    · replace hf := (if_neg c64).symm.trans hf
      refine lv_iload_n hx hb dX8_inJar_10 rfl (lv_at hl 2 rfl) ?_
      refine lv_aload_n hx hb dX8_inJar_11 rfl (lv_at hl 0 rfl) ?_
      refine gt_X8 X hw 5 kk_197 rfl (by decide) mw_726 rfl dX8_inJar_12 ?_
      refine lv_bipush (v := 72) hx hb dX8_inJar_15 (by decide) ?_
      refine lv_bipush (v := 10) hx hb dX8_inJar_17 (by decide) ?_
      refine lv_iload_n hx hb dX8_inJar_19 rfl (lv_at hl 1 rfl) ?_
      refine lv_imul hx hb dX8_inJar_20 ?_
      refine lv_iadd hx hb dX8_inJar_21 ?_
      refine lv_iload_n hx hb dX8_inJar_22 rfl (lv_at hl 3 rfl) ?_
      refine lv_iadd hx hb dX8_inJar_23 ?_
      obtain ⟨v65, q66, hf⟩ := ob hf
      refine aldM X hw kdv_201 q66 dX8_inJar_24 ?_
      refine lv_iadd hx hb dX8_inJar_25 ?_
      refine lv_topi (fun z67 ez67 => ?_)
      replace hf := nmb hf ez67
      refine lv_istore_n (lv' := [(2, .int z67), (0, .ref (b + 197)), (1, .int x1), (3, .int x3)]) hx hb dX8_inJar_26 rfl hl (by decide) rfl (fun ls hl => ?_)
      obtain ⟨z68, ez68⟩ : ∃ y : Int32, y = x3 + 1 := ⟨_, rfl⟩
      replace hf := nmb hf ez68
      refine lv_iinc (v := z68) (lv' := [(3, .int z68), (2, .int z67), (0, .ref (b + 197)), (1, .int x1)]) hx hb dX8_inJar_27 hl (k := 3) rfl (by rw [ez68]; rfl) (by decide) rfl (fun ls hl => ?_)
      refine lv_goto (tgt := 4) hx hb dX8_inJar_30 (by decide) ?_
      exact ih x1 z67 z68 M hf H locs ls hw (lv_sub hl [2, 3, 1, 0] rfl)
set_option maxHeartbeats 4000000 in
set_option maxRecDepth 100000 in
theorem ctX8_inJar (l : Launch) (E : EE) (b : Nat) {MC : Mem} {TC : Int64} {TM : Int64} {x1 : Int32} {M : Mem} {res : Int32}  (hf : gX8_inJar x1 M = some res) : MetI l E b yX8_inJar (.code yX8_inJar cX8_inJar 4 (some .int)) rmX8_inJar [.ref (b + 197), .int x1] MC TC M TM res MC TC M TM := by
  refine Met.ofW (cc := cX8_inJar) (maxL := 4) (ret := (some .int)) (by decide) rfl ?_
  intro p e s m args below meth c s₁ B hml hv
  obtain ⟨rfl, hP, hK⟩ := hv
  have hx := B.exec
  have hb := B.bytes
  have X : CX E p s m _ c cX8_inJar 4 RX8 := ⟨hx, hb, hml, findClass_of_methodNamed B.named, fun w h => atoms_spec (ws := _ :: wt) B.pre w (List.mem_cons_of_mem _ h), hK⟩
  have hr := B.returns
  have hlk := B.notSynchronized
  have hw : WW E b MC TC M TM s s.heap [] := ⟨hP, va_S.rf⟩
  have hl := lv_entry ([.ref (b + 197), .int x1]) (n := 4) (Nat.le_of_ble_eq_true rfl)
  rw [lg_entry_eq]
  generalize (lg_sl ([.ref (b + 197), .int x1]) ++ List.replicate (4 - (lg_sl ([.ref (b + 197), .int x1])).length) Slot.unset).toArray = ls at hl ⊢
  have hl : lv_has ls 4 [(0, .ref (b + 197)), (1, .int x1)] := hl
  obtain ⟨H, hH⟩ : ∃ H, H = s.heap := ⟨_, rfl⟩
  obtain ⟨locs, hL⟩ : ∃ L : List Loc, L = [] := ⟨_, rfl⟩
  rw [← hH, ← hL] at hw
  suffices hg : W p l e rmX8_inJar s m _ below meth c H locs 0 0 (MQ below (va_Qi (fun x (_ : Unit) => x = res) (fun _ t => PW E b MC TC M TM t) (AA b)) _ s 0 0 (AA b)) (F0 m 0 ls []) by rw [hH, hL] at hg; exact hg
  clear hH hL
  rw [gX8_inJar] at hf
  refine lv_iconst (v := 0) hx hb dX8_inJar_0 (by decide) ?_
  refine lv_istore_n (lv' := [(2, .int 0), (0, .ref (b + 197)), (1, .int x1)]) hx hb dX8_inJar_1 rfl hl (by decide) rfl (fun ls hl => ?_)
  refine lv_iconst (v := 0) hx hb dX8_inJar_2 (by decide) ?_
  refine lv_istore_n (lv' := [(3, .int 0), (2, .int 0), (0, .ref (b + 197)), (1, .int x1)]) hx hb dX8_inJar_3 rfl hl (by decide) rfl (fun ls hl => ?_)
  exact tX8_inJar_4 X hr hlk FU x1 0 0 M hf H locs ls hw (lv_sub hl [2, 3, 1, 0] rfl)

abbrev rmX8_one : Room := { frames := 2, cells := 0, slots := 0, locals := 46 }
theorem hd_X8_one : Hd yX8_one RX8 2 := by decide +kernel
def gX8_one (x1 : Int32) (x2 : Int32) (M : Mem) : Option (Int32) := (gX8_isOne x1 M).bind fun u69 => if u69 = 0 then (some ((-1))) else (if x2 = 0 then ((ldA 5 (M 198) x1).bind fun v73 => some (v73)) else (if x2 = 1 then ((ldA 5 (M 199) x1).bind fun v76 => some (v76)) else (if x2 = 2 then ((ldA 1233 (M 201) (2 + x1)).bind fun v79 => some (v79)) else (if x2 = 3 then ((ldA 1233 (M 201) (67 + x1)).bind fun v82 => some (v82)) else (if x2 = 4 then ((ldA 5 (M 198) x1).bind fun v85 => (gX8_layersOf x1 v85 M).bind fun u87 => some (u87)) else (some ((-1))))))))
set_option maxHeartbeats 4000000 in
set_option maxRecDepth 100000 in
theorem ctX8_one (l : Launch) (E : EE) (b : Nat) {MC : Mem} {TC : Int64} {TM : Int64} {x1 : Int32} {x2 : Int32} {M : Mem} {res : Int32}  (hf : gX8_one x1 x2 M = some res) : MetI l E b yX8_one (.code yX8_one cX8_one 3 (some .int)) rmX8_one [.ref (b + 197), .int x1, .int x2] MC TC M TM res MC TC M TM := by
  refine Met.ofW (cc := cX8_one) (maxL := 3) (ret := (some .int)) (by decide) rfl ?_
  intro p e s m args below meth c s₁ B hml hv
  obtain ⟨rfl, hP, hK⟩ := hv
  have hx := B.exec
  have hb := B.bytes
  have X : CX E p s m _ c cX8_one 3 RX8 := ⟨hx, hb, hml, findClass_of_methodNamed B.named, fun w h => atoms_spec (ws := _ :: wt) B.pre w (List.mem_cons_of_mem _ h), hK⟩
  have hr := B.returns
  have hlk := B.notSynchronized
  have hw : WW E b MC TC M TM s s.heap [] := ⟨hP, va_S.rf⟩
  have hl := lv_entry ([.ref (b + 197), .int x1, .int x2]) (n := 3) (Nat.le_of_ble_eq_true rfl)
  rw [lg_entry_eq]
  generalize (lg_sl ([.ref (b + 197), .int x1, .int x2]) ++ List.replicate (3 - (lg_sl ([.ref (b + 197), .int x1, .int x2])).length) Slot.unset).toArray = ls at hl ⊢
  have hl : lv_has ls 3 [(0, .ref (b + 197)), (1, .int x1), (2, .int x2)] := hl
  obtain ⟨H, hH⟩ : ∃ H, H = s.heap := ⟨_, rfl⟩
  obtain ⟨locs, hL⟩ : ∃ L : List Loc, L = [] := ⟨_, rfl⟩
  rw [← hH, ← hL] at hw
  suffices hg : W p l e rmX8_one s m _ below meth c H locs 0 0 (MQ below (va_Qi (fun x (_ : Unit) => x = res) (fun _ t => PW E b MC TC M TM t) (AA b)) _ s 0 0 (AA b)) (F0 m 0 ls []) by rw [hH, hL] at hg; exact hg
  clear hH hL
  rw [gX8_one] at hf
  refine lv_aload_n hx hb dX8_one_0 rfl (lv_at hl 0 rfl) ?_
  refine lv_iload_n hx hb dX8_one_1 rfl (lv_at hl 1 rfl) ?_
  obtain ⟨u69, q70, hf⟩ := ob hf
  refine cVi (As := [.int x1]) X hw (ctX8_isOne l E b  q70) ⟨mw_868, mw_870, mw_37, mw_61, mw_871⟩ hd_X8_isOne ⟨Nat.le_of_ble_eq_true rfl, Nat.le_of_ble_eq_true rfl, rfl, rfl⟩ (kdk kk_197 (by decide)) (ce_X8 E _ _ _ _ kk_197) (show vwCl[8]? = some (RX8, TX8, 31) from rfl) rfl hl.1 rfl (Nat.le_of_ble_eq_true rfl) dX8_one_2 (fun H locs hw => ?_)
  refine lv_if_ne (tgt := 10) hx hb dX8_one_5 (by decide) (fun c71 => ?_) (fun c71 => ?_)
  · replace hf := (if_neg c71).symm.trans hf
    refine lv_iload_n hx hb dX8_one_10 rfl (lv_at hl 2 rfl) ?_
    by_cases c72 : x2 = 0
    · replace hf := (if_pos c72).symm.trans hf
      refine lv_tableIn (tgt := 44) (off := 33) hx hb dX8_one_11 (by rw [c72]; decide) (by rw [c72]; decide) (by rw [c72]; rfl) (by decide) ?_
      refine lv_aload_n hx hb dX8_one_44 rfl (lv_at hl 0 rfl) ?_
      refine gt_X8 X hw 1 kk_197 rfl (by decide) mw_722 rfl dX8_one_45 ?_
      refine lv_iload_n hx hb dX8_one_48 rfl (lv_at hl 1 rfl) ?_
      obtain ⟨v73, q74, hf⟩ := ob hf
      refine aldM X hw kdv_198 q74 dX8_one_49 ?_
      replace hf := Option.some.inj hf
      subst hf
      exact eI X hw hr hlk dX8_one_50
    · replace hf := (if_neg c72).symm.trans hf
      by_cases c75 : x2 = 1
      · replace hf := (if_pos c75).symm.trans hf
        refine lv_tableIn (tgt := 51) (off := 40) hx hb dX8_one_11 (by rw [c75]; decide) (by rw [c75]; decide) (by rw [c75]; rfl) (by decide) ?_
        refine lv_aload_n hx hb dX8_one_51 rfl (lv_at hl 0 rfl) ?_
        refine gt_X8 X hw 2 kk_197 rfl (by decide) mw_723 rfl dX8_one_52 ?_
        refine lv_iload_n hx hb dX8_one_55 rfl (lv_at hl 1 rfl) ?_
        obtain ⟨v76, q77, hf⟩ := ob hf
        refine aldM X hw kdv_199 q77 dX8_one_56 ?_
        replace hf := Option.some.inj hf
        subst hf
        exact eI X hw hr hlk dX8_one_57
      · replace hf := (if_neg c75).symm.trans hf
        by_cases c78 : x2 = 2
        · replace hf := (if_pos c78).symm.trans hf
          refine lv_tableIn (tgt := 58) (off := 47) hx hb dX8_one_11 (by rw [c78]; decide) (by rw [c78]; decide) (by rw [c78]; rfl) (by decide) ?_
          refine lv_aload_n hx hb dX8_one_58 rfl (lv_at hl 0 rfl) ?_
          refine gt_X8 X hw 5 kk_197 rfl (by decide) mw_726 rfl dX8_one_59 ?_
          refine lv_iconst (v := 2) hx hb dX8_one_62 (by decide) ?_
          refine lv_iload_n hx hb dX8_one_63 rfl (lv_at hl 1 rfl) ?_
          refine lv_iadd hx hb dX8_one_64 ?_
          obtain ⟨v79, q80, hf⟩ := ob hf
          refine aldM X hw kdv_201 q80 dX8_one_65 ?_
          replace hf := Option.some.inj hf
          subst hf
          exact eI X hw hr hlk dX8_one_66
        · replace hf := (if_neg c78).symm.trans hf
          by_cases c81 : x2 = 3
          · replace hf := (if_pos c81).symm.trans hf
            refine lv_tableIn (tgt := 67) (off := 56) hx hb dX8_one_11 (by rw [c81]; decide) (by rw [c81]; decide) (by rw [c81]; rfl) (by decide) ?_
            refine lv_aload_n hx hb dX8_one_67 rfl (lv_at hl 0 rfl) ?_
            refine gt_X8 X hw 5 kk_197 rfl (by decide) mw_726 rfl dX8_one_68 ?_
            refine lv_bipush (v := 67) hx hb dX8_one_71 (by decide) ?_
            refine lv_iload_n hx hb dX8_one_73 rfl (lv_at hl 1 rfl) ?_
            refine lv_iadd hx hb dX8_one_74 ?_
            obtain ⟨v82, q83, hf⟩ := ob hf
            refine aldM X hw kdv_201 q83 dX8_one_75 ?_
            replace hf := Option.some.inj hf
            subst hf
            exact eI X hw hr hlk dX8_one_76
          · replace hf := (if_neg c81).symm.trans hf
            by_cases c84 : x2 = 4
            · replace hf := (if_pos c84).symm.trans hf
              refine lv_tableIn (tgt := 77) (off := 66) hx hb dX8_one_11 (by rw [c84]; decide) (by rw [c84]; decide) (by rw [c84]; rfl) (by decide) ?_
              refine lv_aload_n hx hb dX8_one_77 rfl (lv_at hl 0 rfl) ?_
              refine lv_iload_n hx hb dX8_one_78 rfl (lv_at hl 1 rfl) ?_
              refine lv_aload_n hx hb dX8_one_79 rfl (lv_at hl 0 rfl) ?_
              refine gt_X8 X hw 1 kk_197 rfl (by decide) mw_722 rfl dX8_one_80 ?_
              refine lv_iload_n hx hb dX8_one_83 rfl (lv_at hl 1 rfl) ?_
              obtain ⟨v85, q86, hf⟩ := ob hf
              refine aldM X hw kdv_198 q86 dX8_one_84 ?_
              obtain ⟨u87, q88, hf⟩ := ob hf
              refine cVi (As := [.int x1, .int v85]) X hw (ctX8_layersOf l E b  q88) ⟨mw_872, mw_874, mw_38, mw_61, mw_875⟩ hd_X8_layersOf ⟨Nat.le_of_ble_eq_true rfl, Nat.le_of_ble_eq_true rfl, rfl, rfl⟩ (kdk kk_197 (by decide)) (ce_X8 E _ _ _ _ kk_197) (show vwCl[8]? = some (RX8, TX8, 31) from rfl) rfl hl.1 rfl (Nat.le_of_ble_eq_true rfl) dX8_one_85 (fun H locs hw => ?_)
              replace hf := Option.some.inj hf
              subst hf
              exact eI X hw hr hlk dX8_one_88
            · replace hf := (if_neg c84).symm.trans hf
              have nc72 : x2.toInt ≠ 0 := fun q => c72 (Int32.toInt_inj.mp (q.trans (by decide)))
              have nc75 : x2.toInt ≠ 1 := fun q => c75 (Int32.toInt_inj.mp (q.trans (by decide)))
              have nc78 : x2.toInt ≠ 2 := fun q => c78 (Int32.toInt_inj.mp (q.trans (by decide)))
              have nc81 : x2.toInt ≠ 3 := fun q => c81 (Int32.toInt_inj.mp (q.trans (by decide)))
              have nc84 : x2.toInt ≠ 4 := fun q => c84 (Int32.toInt_inj.mp (q.trans (by decide)))
              refine lv_tableOut (tgt := 89) hx hb dX8_one_11 (by omega) (by decide) ?_
              refine lv_iconst (v := (-1)) hx hb dX8_one_89 (by decide) ?_
              replace hf := Option.some.inj hf
              subst hf
              exact eI X hw hr hlk dX8_one_90
  · replace hf := (if_pos c71).symm.trans hf
    refine lv_iconst (v := (-1)) hx hb dX8_one_8 (by decide) ?_
    replace hf := Option.some.inj hf
    subst hf
    exact eI X hw hr hlk dX8_one_9

abbrev rmX8_week : Room := { frames := 2, cells := 0, slots := 0, locals := 43 }
theorem hd_X8_week : Hd yX8_week RX8 2 := by decide +kernel
def gX8_week_46   (y0 : Int32) (M : Mem) : Option (Int32) := some (y0)
def gX8_week (x1 : Int32) (x2 : Int32) (M : Mem) : Option (Int32) := (gX8_isOne x1 M).bind fun u89 => if u89 = 0 then (some ((-1))) else ((gX8_in x2 0 6).bind fun u92 => if u92 = 0 then (some ((-1))) else ((ldA 5 (M 199) x1).bind fun v95 => if v95 ≤ x2 then (gX8_week_46 ((-9)) M) else ((ldA 35 (M 200) ((7 * x1) + x2)).bind fun v98 => gX8_week_46 v98 M)))
set_option maxHeartbeats 4000000 in
set_option maxRecDepth 100000 in
theorem tX8_week_46 {p : Program} {l : Launch} {e : Env} {s : State} {m : MethodId} {args : Array Value} {below : List Frame} {meth : Method} {c : Code} {E : EE} {b : Nat} {MC : Mem} {TC : Int64} {TM : Int64} {res : Int32} (X : CX E p s m args c cX8_week 3 RX8) (hr : meth.sig.returnType = (some .int)) (hlk : meth.locks = false)    : ∀ (y0 : Int32) (M : Mem), gX8_week_46 y0 M = some res → ∀ (H : Heap) (locs : List Loc) (ls : Array Slot), WW E b MC TC M TM s H locs → lv_has ls 3 [] → W p l e rmX8_week s m args below meth c H locs 0 0 (MQ below (va_Qi (fun x (_ : Unit) => x = res) (fun _ t => PW E b MC TC M TM t) (AA b)) args s 0 0 (AA b)) (F0 m 46 ls [.int y0]) := by
  have hx := X.1
  have hb := X.2.1
  intro y0 M hf H locs ls hw hl
  rw [gX8_week_46] at hf
  replace hf := Option.some.inj hf
  subst hf
  exact eI X hw hr hlk dX8_week_46
set_option maxHeartbeats 4000000 in
set_option maxRecDepth 100000 in
theorem ctX8_week (l : Launch) (E : EE) (b : Nat) {MC : Mem} {TC : Int64} {TM : Int64} {x1 : Int32} {x2 : Int32} {M : Mem} {res : Int32}  (hf : gX8_week x1 x2 M = some res) : MetI l E b yX8_week (.code yX8_week cX8_week 3 (some .int)) rmX8_week [.ref (b + 197), .int x1, .int x2] MC TC M TM res MC TC M TM := by
  refine Met.ofW (cc := cX8_week) (maxL := 3) (ret := (some .int)) (by decide) rfl ?_
  intro p e s m args below meth c s₁ B hml hv
  obtain ⟨rfl, hP, hK⟩ := hv
  have hx := B.exec
  have hb := B.bytes
  have X : CX E p s m _ c cX8_week 3 RX8 := ⟨hx, hb, hml, findClass_of_methodNamed B.named, fun w h => atoms_spec (ws := _ :: wt) B.pre w (List.mem_cons_of_mem _ h), hK⟩
  have hr := B.returns
  have hlk := B.notSynchronized
  have hw : WW E b MC TC M TM s s.heap [] := ⟨hP, va_S.rf⟩
  have hl := lv_entry ([.ref (b + 197), .int x1, .int x2]) (n := 3) (Nat.le_of_ble_eq_true rfl)
  rw [lg_entry_eq]
  generalize (lg_sl ([.ref (b + 197), .int x1, .int x2]) ++ List.replicate (3 - (lg_sl ([.ref (b + 197), .int x1, .int x2])).length) Slot.unset).toArray = ls at hl ⊢
  have hl : lv_has ls 3 [(0, .ref (b + 197)), (1, .int x1), (2, .int x2)] := hl
  obtain ⟨H, hH⟩ : ∃ H, H = s.heap := ⟨_, rfl⟩
  obtain ⟨locs, hL⟩ : ∃ L : List Loc, L = [] := ⟨_, rfl⟩
  rw [← hH, ← hL] at hw
  suffices hg : W p l e rmX8_week s m _ below meth c H locs 0 0 (MQ below (va_Qi (fun x (_ : Unit) => x = res) (fun _ t => PW E b MC TC M TM t) (AA b)) _ s 0 0 (AA b)) (F0 m 0 ls []) by rw [hH, hL] at hg; exact hg
  clear hH hL
  rw [gX8_week] at hf
  refine lv_aload_n hx hb dX8_week_0 rfl (lv_at hl 0 rfl) ?_
  refine lv_iload_n hx hb dX8_week_1 rfl (lv_at hl 1 rfl) ?_
  obtain ⟨u89, q90, hf⟩ := ob hf
  refine cVi (As := [.int x1]) X hw (ctX8_isOne l E b  q90) ⟨mw_868, mw_870, mw_37, mw_61, mw_871⟩ hd_X8_isOne ⟨Nat.le_of_ble_eq_true rfl, Nat.le_of_ble_eq_true rfl, rfl, rfl⟩ (kdk kk_197 (by decide)) (ce_X8 E _ _ _ _ kk_197) (show vwCl[8]? = some (RX8, TX8, 31) from rfl) rfl hl.1 rfl (Nat.le_of_ble_eq_true rfl) dX8_week_2 (fun H locs hw => ?_)
  refine lv_if_eq (tgt := 18) hx hb dX8_week_5 (by decide) (fun c91 => ?_) (fun c91 => ?_)
  · replace hf := (if_pos c91).symm.trans hf
    refine lv_iconst (v := (-1)) hx hb dX8_week_18 (by decide) ?_
    replace hf := Option.some.inj hf
    subst hf
    exact eI X hw hr hlk dX8_week_19
  · replace hf := (if_neg c91).symm.trans hf
    refine lv_iload_n hx hb dX8_week_8 rfl (lv_at hl 2 rfl) ?_
    refine lv_iconst (v := 0) hx hb dX8_week_9 (by decide) ?_
    refine lv_bipush (v := 6) hx hb dX8_week_10 (by decide) ?_
    obtain ⟨u92, q93, hf⟩ := ob hf
    refine cSi (As := [.int x2, .int 0, .int 6]) X hw (ctX8_in l E b  q93) ⟨mw_819, mw_820, mw_61, mw_821⟩ hd_X8_in ⟨Nat.le_of_ble_eq_true rfl, Nat.le_of_ble_eq_true rfl, rfl, rfl⟩ rfl hl.1 rfl (Nat.le_of_ble_eq_true rfl) dX8_week_12 (fun H locs hw => ?_)
    refine lv_if_ne (tgt := 20) hx hb dX8_week_15 (by decide) (fun c94 => ?_) (fun c94 => ?_)
    · replace hf := (if_neg c94).symm.trans hf
      refine lv_iload_n hx hb dX8_week_20 rfl (lv_at hl 2 rfl) ?_
      refine lv_aload_n hx hb dX8_week_21 rfl (lv_at hl 0 rfl) ?_
      refine gt_X8 X hw 2 kk_197 rfl (by decide) mw_723 rfl dX8_week_22 ?_
      refine lv_iload_n hx hb dX8_week_25 rfl (lv_at hl 1 rfl) ?_
      obtain ⟨v95, q96, hf⟩ := ob hf
      refine aldM X hw kdv_199 q96 dX8_week_26 ?_
      refine lv_icmp_ge (tgt := 44) hx hb dX8_week_27 (by decide) (fun c97 => ?_) (fun c97 => ?_)
      · replace hf := (if_pos c97).symm.trans hf
        refine lv_bipush (v := (-9)) hx hb dX8_week_44 (by decide) ?_
        exact tX8_week_46 X hr hlk ((-9)) M hf H locs ls hw (lv_sub hl [] rfl)
      · replace hf := (if_neg c97).symm.trans hf
        refine lv_aload_n hx hb dX8_week_30 rfl (lv_at hl 0 rfl) ?_
        refine gt_X8 X hw 3 kk_197 rfl (by decide) mw_724 rfl dX8_week_31 ?_
        refine lv_bipush (v := 7) hx hb dX8_week_34 (by decide) ?_
        refine lv_iload_n hx hb dX8_week_36 rfl (lv_at hl 1 rfl) ?_
        refine lv_imul hx hb dX8_week_37 ?_
        refine lv_iload_n hx hb dX8_week_38 rfl (lv_at hl 2 rfl) ?_
        refine lv_iadd hx hb dX8_week_39 ?_
        obtain ⟨v98, q99, hf⟩ := ob hf
        refine aldM X hw kdv_200 q99 dX8_week_40 ?_
        refine lv_goto (tgt := 46) hx hb dX8_week_41 (by decide) ?_
        exact tX8_week_46 X hr hlk v98 M hf H locs ls hw (lv_sub hl [] rfl)
    · replace hf := (if_pos c94).symm.trans hf
      refine lv_iconst (v := (-1)) hx hb dX8_week_18 (by decide) ?_
      replace hf := Option.some.inj hf
      subst hf
      exact eI X hw hr hlk dX8_week_19

abbrev rmX8_layer : Room := { frames := 2, cells := 0, slots := 0, locals := 43 }
theorem hd_X8_layer : Hd yX8_layer RX8 2 := by decide +kernel
def gX8_layer_43   (y0 : Int32) (M : Mem) : Option (Int32) := some (y0)
def gX8_layer (x1 : Int32) (x2 : Int32) (M : Mem) : Option (Int32) := (gX8_isOne x1 M).bind fun u100 => if u100 = 0 then (some ((-1))) else ((gX8_in x2 0 11).bind fun u103 => if u103 = 0 then (some ((-1))) else ((ldA 1233 (M 201) (2 + x1)).bind fun v106 => if v106 ≤ x2 then (gX8_layer_43 ((-9)) M) else ((gX8_layerOf x1 x2 M).bind fun u109 => gX8_layer_43 u109 M)))
set_option maxHeartbeats 4000000 in
set_option maxRecDepth 100000 in
theorem tX8_layer_43 {p : Program} {l : Launch} {e : Env} {s : State} {m : MethodId} {args : Array Value} {below : List Frame} {meth : Method} {c : Code} {E : EE} {b : Nat} {MC : Mem} {TC : Int64} {TM : Int64} {res : Int32} (X : CX E p s m args c cX8_layer 3 RX8) (hr : meth.sig.returnType = (some .int)) (hlk : meth.locks = false)    : ∀ (y0 : Int32) (M : Mem), gX8_layer_43 y0 M = some res → ∀ (H : Heap) (locs : List Loc) (ls : Array Slot), WW E b MC TC M TM s H locs → lv_has ls 3 [] → W p l e rmX8_layer s m args below meth c H locs 0 0 (MQ below (va_Qi (fun x (_ : Unit) => x = res) (fun _ t => PW E b MC TC M TM t) (AA b)) args s 0 0 (AA b)) (F0 m 43 ls [.int y0]) := by
  have hx := X.1
  have hb := X.2.1
  intro y0 M hf H locs ls hw hl
  rw [gX8_layer_43] at hf
  replace hf := Option.some.inj hf
  subst hf
  exact eI X hw hr hlk dX8_layer_43
set_option maxHeartbeats 4000000 in
set_option maxRecDepth 100000 in
theorem ctX8_layer (l : Launch) (E : EE) (b : Nat) {MC : Mem} {TC : Int64} {TM : Int64} {x1 : Int32} {x2 : Int32} {M : Mem} {res : Int32}  (hf : gX8_layer x1 x2 M = some res) : MetI l E b yX8_layer (.code yX8_layer cX8_layer 3 (some .int)) rmX8_layer [.ref (b + 197), .int x1, .int x2] MC TC M TM res MC TC M TM := by
  refine Met.ofW (cc := cX8_layer) (maxL := 3) (ret := (some .int)) (by decide) rfl ?_
  intro p e s m args below meth c s₁ B hml hv
  obtain ⟨rfl, hP, hK⟩ := hv
  have hx := B.exec
  have hb := B.bytes
  have X : CX E p s m _ c cX8_layer 3 RX8 := ⟨hx, hb, hml, findClass_of_methodNamed B.named, fun w h => atoms_spec (ws := _ :: wt) B.pre w (List.mem_cons_of_mem _ h), hK⟩
  have hr := B.returns
  have hlk := B.notSynchronized
  have hw : WW E b MC TC M TM s s.heap [] := ⟨hP, va_S.rf⟩
  have hl := lv_entry ([.ref (b + 197), .int x1, .int x2]) (n := 3) (Nat.le_of_ble_eq_true rfl)
  rw [lg_entry_eq]
  generalize (lg_sl ([.ref (b + 197), .int x1, .int x2]) ++ List.replicate (3 - (lg_sl ([.ref (b + 197), .int x1, .int x2])).length) Slot.unset).toArray = ls at hl ⊢
  have hl : lv_has ls 3 [(0, .ref (b + 197)), (1, .int x1), (2, .int x2)] := hl
  obtain ⟨H, hH⟩ : ∃ H, H = s.heap := ⟨_, rfl⟩
  obtain ⟨locs, hL⟩ : ∃ L : List Loc, L = [] := ⟨_, rfl⟩
  rw [← hH, ← hL] at hw
  suffices hg : W p l e rmX8_layer s m _ below meth c H locs 0 0 (MQ below (va_Qi (fun x (_ : Unit) => x = res) (fun _ t => PW E b MC TC M TM t) (AA b)) _ s 0 0 (AA b)) (F0 m 0 ls []) by rw [hH, hL] at hg; exact hg
  clear hH hL
  rw [gX8_layer] at hf
  refine lv_aload_n hx hb dX8_layer_0 rfl (lv_at hl 0 rfl) ?_
  refine lv_iload_n hx hb dX8_layer_1 rfl (lv_at hl 1 rfl) ?_
  obtain ⟨u100, q101, hf⟩ := ob hf
  refine cVi (As := [.int x1]) X hw (ctX8_isOne l E b  q101) ⟨mw_868, mw_870, mw_37, mw_61, mw_871⟩ hd_X8_isOne ⟨Nat.le_of_ble_eq_true rfl, Nat.le_of_ble_eq_true rfl, rfl, rfl⟩ (kdk kk_197 (by decide)) (ce_X8 E _ _ _ _ kk_197) (show vwCl[8]? = some (RX8, TX8, 31) from rfl) rfl hl.1 rfl (Nat.le_of_ble_eq_true rfl) dX8_layer_2 (fun H locs hw => ?_)
  refine lv_if_eq (tgt := 18) hx hb dX8_layer_5 (by decide) (fun c102 => ?_) (fun c102 => ?_)
  · replace hf := (if_pos c102).symm.trans hf
    refine lv_iconst (v := (-1)) hx hb dX8_layer_18 (by decide) ?_
    replace hf := Option.some.inj hf
    subst hf
    exact eI X hw hr hlk dX8_layer_19
  · replace hf := (if_neg c102).symm.trans hf
    refine lv_iload_n hx hb dX8_layer_8 rfl (lv_at hl 2 rfl) ?_
    refine lv_iconst (v := 0) hx hb dX8_layer_9 (by decide) ?_
    refine lv_bipush (v := 11) hx hb dX8_layer_10 (by decide) ?_
    obtain ⟨u103, q104, hf⟩ := ob hf
    refine cSi (As := [.int x2, .int 0, .int 11]) X hw (ctX8_in l E b  q104) ⟨mw_819, mw_820, mw_61, mw_821⟩ hd_X8_in ⟨Nat.le_of_ble_eq_true rfl, Nat.le_of_ble_eq_true rfl, rfl, rfl⟩ rfl hl.1 rfl (Nat.le_of_ble_eq_true rfl) dX8_layer_12 (fun H locs hw => ?_)
    refine lv_if_ne (tgt := 20) hx hb dX8_layer_15 (by decide) (fun c105 => ?_) (fun c105 => ?_)
    · replace hf := (if_neg c105).symm.trans hf
      refine lv_iload_n hx hb dX8_layer_20 rfl (lv_at hl 2 rfl) ?_
      refine lv_aload_n hx hb dX8_layer_21 rfl (lv_at hl 0 rfl) ?_
      refine gt_X8 X hw 5 kk_197 rfl (by decide) mw_726 rfl dX8_layer_22 ?_
      refine lv_iconst (v := 2) hx hb dX8_layer_25 (by decide) ?_
      refine lv_iload_n hx hb dX8_layer_26 rfl (lv_at hl 1 rfl) ?_
      refine lv_iadd hx hb dX8_layer_27 ?_
      obtain ⟨v106, q107, hf⟩ := ob hf
      refine aldM X hw kdv_201 q107 dX8_layer_28 ?_
      refine lv_icmp_ge (tgt := 41) hx hb dX8_layer_29 (by decide) (fun c108 => ?_) (fun c108 => ?_)
      · replace hf := (if_pos c108).symm.trans hf
        refine lv_bipush (v := (-9)) hx hb dX8_layer_41 (by decide) ?_
        exact tX8_layer_43 X hr hlk ((-9)) M hf H locs ls hw (lv_sub hl [] rfl)
      · replace hf := (if_neg c108).symm.trans hf
        refine lv_aload_n hx hb dX8_layer_32 rfl (lv_at hl 0 rfl) ?_
        refine lv_iload_n hx hb dX8_layer_33 rfl (lv_at hl 1 rfl) ?_
        refine lv_iload_n hx hb dX8_layer_34 rfl (lv_at hl 2 rfl) ?_
        obtain ⟨u109, q110, hf⟩ := ob hf
        refine cVi (As := [.int x1, .int x2]) X hw (ctX8_layerOf l E b  q110) ⟨mw_876, mw_878, mw_39, mw_61, mw_879⟩ hd_X8_layerOf ⟨Nat.le_of_ble_eq_true rfl, Nat.le_of_ble_eq_true rfl, rfl, rfl⟩ (kdk kk_197 (by decide)) (ce_X8 E _ _ _ _ kk_197) (show vwCl[8]? = some (RX8, TX8, 31) from rfl) rfl hl.1 rfl (Nat.le_of_ble_eq_true rfl) dX8_layer_35 (fun H locs hw => ?_)
        refine lv_goto (tgt := 43) hx hb dX8_layer_38 (by decide) ?_
        exact tX8_layer_43 X hr hlk u109 M hf H locs ls hw (lv_sub hl [] rfl)
    · replace hf := (if_pos c105).symm.trans hf
      refine lv_iconst (v := (-1)) hx hb dX8_layer_18 (by decide) ?_
      replace hf := Option.some.inj hf
      subst hf
      exact eI X hw hr hlk dX8_layer_19

abbrev rmX8_jar : Room := { frames := 2, cells := 0, slots := 0, locals := 42 }
theorem hd_X8_jar : Hd yX8_jar RX8 2 := by decide +kernel
def gX8_jar_32   (y0 : Int32) (M : Mem) : Option (Int32) := some (y0)
def gX8_jar (x1 : Int32) (x2 : Int32) (M : Mem) : Option (Int32) := (gX8_isJar x1).bind fun u111 => if u111 = 0 then (gX8_jar_32 ((-1)) M) else ((gX8_isThought x2).bind fun u114 => if u114 = 0 then (gX8_jar_32 ((-1)) M) else ((ldA 1233 (M 201) ((72 + (10 * x1)) + x2)).bind fun v117 => gX8_jar_32 v117 M))
set_option maxHeartbeats 4000000 in
set_option maxRecDepth 100000 in
theorem tX8_jar_32 {p : Program} {l : Launch} {e : Env} {s : State} {m : MethodId} {args : Array Value} {below : List Frame} {meth : Method} {c : Code} {E : EE} {b : Nat} {MC : Mem} {TC : Int64} {TM : Int64} {res : Int32} (X : CX E p s m args c cX8_jar 3 RX8) (hr : meth.sig.returnType = (some .int)) (hlk : meth.locks = false)    : ∀ (y0 : Int32) (M : Mem), gX8_jar_32 y0 M = some res → ∀ (H : Heap) (locs : List Loc) (ls : Array Slot), WW E b MC TC M TM s H locs → lv_has ls 3 [] → W p l e rmX8_jar s m args below meth c H locs 0 0 (MQ below (va_Qi (fun x (_ : Unit) => x = res) (fun _ t => PW E b MC TC M TM t) (AA b)) args s 0 0 (AA b)) (F0 m 32 ls [.int y0]) := by
  have hx := X.1
  have hb := X.2.1
  intro y0 M hf H locs ls hw hl
  rw [gX8_jar_32] at hf
  replace hf := Option.some.inj hf
  subst hf
  exact eI X hw hr hlk dX8_jar_32
set_option maxHeartbeats 4000000 in
set_option maxRecDepth 100000 in
theorem ctX8_jar (l : Launch) (E : EE) (b : Nat) {MC : Mem} {TC : Int64} {TM : Int64} {x1 : Int32} {x2 : Int32} {M : Mem} {res : Int32}  (hf : gX8_jar x1 x2 M = some res) : MetI l E b yX8_jar (.code yX8_jar cX8_jar 3 (some .int)) rmX8_jar [.ref (b + 197), .int x1, .int x2] MC TC M TM res MC TC M TM := by
  refine Met.ofW (cc := cX8_jar) (maxL := 3) (ret := (some .int)) (by decide) rfl ?_
  intro p e s m args below meth c s₁ B hml hv
  obtain ⟨rfl, hP, hK⟩ := hv
  have hx := B.exec
  have hb := B.bytes
  have X : CX E p s m _ c cX8_jar 3 RX8 := ⟨hx, hb, hml, findClass_of_methodNamed B.named, fun w h => atoms_spec (ws := _ :: wt) B.pre w (List.mem_cons_of_mem _ h), hK⟩
  have hr := B.returns
  have hlk := B.notSynchronized
  have hw : WW E b MC TC M TM s s.heap [] := ⟨hP, va_S.rf⟩
  have hl := lv_entry ([.ref (b + 197), .int x1, .int x2]) (n := 3) (Nat.le_of_ble_eq_true rfl)
  rw [lg_entry_eq]
  generalize (lg_sl ([.ref (b + 197), .int x1, .int x2]) ++ List.replicate (3 - (lg_sl ([.ref (b + 197), .int x1, .int x2])).length) Slot.unset).toArray = ls at hl ⊢
  have hl : lv_has ls 3 [(0, .ref (b + 197)), (1, .int x1), (2, .int x2)] := hl
  obtain ⟨H, hH⟩ : ∃ H, H = s.heap := ⟨_, rfl⟩
  obtain ⟨locs, hL⟩ : ∃ L : List Loc, L = [] := ⟨_, rfl⟩
  rw [← hH, ← hL] at hw
  suffices hg : W p l e rmX8_jar s m _ below meth c H locs 0 0 (MQ below (va_Qi (fun x (_ : Unit) => x = res) (fun _ t => PW E b MC TC M TM t) (AA b)) _ s 0 0 (AA b)) (F0 m 0 ls []) by rw [hH, hL] at hg; exact hg
  clear hH hL
  rw [gX8_jar] at hf
  refine lv_iload_n hx hb dX8_jar_0 rfl (lv_at hl 1 rfl) ?_
  obtain ⟨u111, q112, hf⟩ := ob hf
  refine cSi (As := [.int x1]) X hw (ctX8_isJar l E b  q112) ⟨mw_892, mw_893, mw_61, mw_894⟩ hd_X8_isJar ⟨Nat.le_of_ble_eq_true rfl, Nat.le_of_ble_eq_true rfl, rfl, rfl⟩ rfl hl.1 rfl (Nat.le_of_ble_eq_true rfl) dX8_jar_1 (fun H locs hw => ?_)
  refine lv_if_eq (tgt := 31) hx hb dX8_jar_4 (by decide) (fun c113 => ?_) (fun c113 => ?_)
  · replace hf := (if_pos c113).symm.trans hf
    refine lv_iconst (v := (-1)) hx hb dX8_jar_31 (by decide) ?_
    exact tX8_jar_32 X hr hlk ((-1)) M hf H locs ls hw (lv_sub hl [] rfl)
  · replace hf := (if_neg c113).symm.trans hf
    refine lv_iload_n hx hb dX8_jar_7 rfl (lv_at hl 2 rfl) ?_
    obtain ⟨u114, q115, hf⟩ := ob hf
    refine cSi (As := [.int x2]) X hw (ctX8_isThought l E b  q115) ⟨mw_895, mw_896, mw_61, mw_897⟩ hd_X8_isThought ⟨Nat.le_of_ble_eq_true rfl, Nat.le_of_ble_eq_true rfl, rfl, rfl⟩ rfl hl.1 rfl (Nat.le_of_ble_eq_true rfl) dX8_jar_8 (fun H locs hw => ?_)
    refine lv_if_eq (tgt := 31) hx hb dX8_jar_11 (by decide) (fun c116 => ?_) (fun c116 => ?_)
    · replace hf := (if_pos c116).symm.trans hf
      refine lv_iconst (v := (-1)) hx hb dX8_jar_31 (by decide) ?_
      exact tX8_jar_32 X hr hlk ((-1)) M hf H locs ls hw (lv_sub hl [] rfl)
    · replace hf := (if_neg c116).symm.trans hf
      refine lv_aload_n hx hb dX8_jar_14 rfl (lv_at hl 0 rfl) ?_
      refine gt_X8 X hw 5 kk_197 rfl (by decide) mw_726 rfl dX8_jar_15 ?_
      refine lv_bipush (v := 72) hx hb dX8_jar_18 (by decide) ?_
      refine lv_bipush (v := 10) hx hb dX8_jar_20 (by decide) ?_
      refine lv_iload_n hx hb dX8_jar_22 rfl (lv_at hl 1 rfl) ?_
      refine lv_imul hx hb dX8_jar_23 ?_
      refine lv_iadd hx hb dX8_jar_24 ?_
      refine lv_iload_n hx hb dX8_jar_25 rfl (lv_at hl 2 rfl) ?_
      refine lv_iadd hx hb dX8_jar_26 ?_
      obtain ⟨v117, q118, hf⟩ := ob hf
      refine aldM X hw kdv_201 q118 dX8_jar_27 ?_
      refine lv_goto (tgt := 32) hx hb dX8_jar_28 (by decide) ?_
      exact tX8_jar_32 X hr hlk v117 M hf H locs ls hw (lv_sub hl [] rfl)

abbrev rmX8_remembers : Room := { frames := 0, cells := 0, slots := 0, locals := 0 }
theorem hd_X8_remembers : Hd yX8_remembers RX8 0 := by decide +kernel
def gX8_remembers_70   : Nat → Int32 → Int32 → Mem → Option (Mem)
  | 0, _, _, _ => none
  | n + 1, x1, x2, M => if 112 ≤ x2 then ((ldA 1233 (M 201) 112).bind fun v126 => (stA 1233 M 201 112 (v126 + 1)).bind fun M128 => some (M128)) else ((ldA 1233 (M 201) x2).bind fun v130 => (stA 1233 M 201 (x1 + x2) v130).bind fun M132 => (some (x2 + 1)).bind fun z134 => (gX8_remembers_70 n) x1 z134 M132)
def gX8_remembers_54   (M : Mem) : Option (Mem) := (ldA 1233 (M 201) 112).bind fun v122 => (some (113 + (112 * v122))).bind fun z124 => gX8_remembers_70 FU z124 0 M
def gX8_remembers_15   : Nat → Int32 → Mem → Option (Mem)
  | 0, _, _ => none
  | n + 1, x1, M => if 1121 ≤ x1 then ((ldA 1233 (M 201) 112).bind fun v136 => (stA 1233 M 201 112 (v136 - 1)).bind fun M138 => gX8_remembers_54 M138) else ((ldA 1233 (M 201) (x1 + 112)).bind fun v140 => (stA 1233 M 201 x1 v140).bind fun M142 => (some (x1 + 1)).bind fun z144 => (gX8_remembers_15 n) z144 M142)
def gX8_remembers (M : Mem) : Option (Mem) := (ldA 1233 (M 201) 112).bind fun v119 => if v119 = 10 then (gX8_remembers_15 FU 113 M) else (gX8_remembers_54 M)
set_option maxHeartbeats 4000000 in
set_option maxRecDepth 100000 in
theorem tX8_remembers_70 {p : Program} {l : Launch} {e : Env} {s : State} {m : MethodId} {args : Array Value} {below : List Frame} {meth : Method} {c : Code} {E : EE} {b : Nat} {MC : Mem} {TC : Int64} {TM : Int64} {res : Mem} (X : CX E p s m args c cX8_remembers 3 RX8) (hr : meth.sig.returnType = none) (hlk : meth.locks = false)    : ∀ (n : Nat) (x1 : Int32) (x2 : Int32) (M : Mem), gX8_remembers_70 n x1 x2 M = some res → ∀ (H : Heap) (locs : List Loc) (ls : Array Slot), WW E b MC TC M TM s H locs → lv_has ls 3 [(0, .ref (b + 197)), (1, .int x1), (2, .int x2)] → W p l e rmX8_remembers s m args below meth c H locs 0 0 (MQ below (va_Qv (fun (_ : Unit) => True) (fun _ t => PW E b MC TC res TM t) (AA b)) args s 0 0 (AA b)) (F0 m 70 ls []) := by
  have hx := X.1
  have hb := X.2.1
  intro n
  induction n with
  | zero =>
    intro x1 x2 M hf
    cases (show (none : Option (Mem)) = some res from hf)
  | succ n ih =>
    intro x1 x2 M hf H locs ls hw hl
    rw [gX8_remembers_70] at hf
    refine lv_iload_n hx hb dX8_remembers_70 rfl (lv_at hl 2 rfl) ?_
    refine lv_bipush (v := 112) hx hb dX8_remembers_71 (by decide) ?_
    refine lv_icmp_ge (tgt := 96) hx hb dX8_remembers_73 (by decide) (fun c125 => ?_) (fun c125 => ?_)
    · replace hf := (if_pos c125).symm.trans hf
      refine lv_aload_n hx hb dX8_remembers_96 rfl (lv_at hl 0 rfl) ?_
      refine gt_X8 X hw 5 kk_197 rfl (by decide) mw_726 rfl dX8_remembers_97 ?_
      refine lv_bipush (v := 112) hx hb dX8_remembers_100 (by decide) ?_
      refine lv_dup2_11 hx hb dX8_remembers_102 rfl rfl ?_
      obtain ⟨v126, q127, hf⟩ := ob hf
      refine aldM X hw kdv_201 q127 dX8_remembers_103 ?_
      refine lv_iconst (v := 1) hx hb dX8_remembers_104 (by decide) ?_
      refine lv_iadd hx hb dX8_remembers_105 ?_
      obtain ⟨M128, q129, hf⟩ := ob hf
      refine astM X hw kdv_201 q129 dX8_remembers_106 (fun H locs hw => ?_)
      replace hf := Option.some.inj hf
      subst hf
      exact eV X hw hr hlk dX8_remembers_107
    · replace hf := (if_neg c125).symm.trans hf
      refine lv_aload_n hx hb dX8_remembers_76 rfl (lv_at hl 0 rfl) ?_
      refine gt_X8 X hw 5 kk_197 rfl (by decide) mw_726 rfl dX8_remembers_77 ?_
      refine lv_iload_n hx hb dX8_remembers_80 rfl (lv_at hl 1 rfl) ?_
      refine lv_iload_n hx hb dX8_remembers_81 rfl (lv_at hl 2 rfl) ?_
      refine lv_iadd hx hb dX8_remembers_82 ?_
      refine lv_aload_n hx hb dX8_remembers_83 rfl (lv_at hl 0 rfl) ?_
      refine gt_X8 X hw 5 kk_197 rfl (by decide) mw_726 rfl dX8_remembers_84 ?_
      refine lv_iload_n hx hb dX8_remembers_87 rfl (lv_at hl 2 rfl) ?_
      obtain ⟨v130, q131, hf⟩ := ob hf
      refine aldM X hw kdv_201 q131 dX8_remembers_88 ?_
      obtain ⟨M132, q133, hf⟩ := ob hf
      refine astM X hw kdv_201 q133 dX8_remembers_89 (fun H locs hw => ?_)
      obtain ⟨z134, ez134⟩ : ∃ y : Int32, y = x2 + 1 := ⟨_, rfl⟩
      replace hf := nmb hf ez134
      refine lv_iinc (v := z134) (lv' := [(2, .int z134), (0, .ref (b + 197)), (1, .int x1)]) hx hb dX8_remembers_90 hl (k := 2) rfl (by rw [ez134]; rfl) (by decide) rfl (fun ls hl => ?_)
      refine lv_goto (tgt := 70) hx hb dX8_remembers_93 (by decide) ?_
      exact ih x1 z134 M132 hf H locs ls hw (lv_sub hl [1, 2, 0] rfl)
set_option maxHeartbeats 4000000 in
set_option maxRecDepth 100000 in
theorem tX8_remembers_54 {p : Program} {l : Launch} {e : Env} {s : State} {m : MethodId} {args : Array Value} {below : List Frame} {meth : Method} {c : Code} {E : EE} {b : Nat} {MC : Mem} {TC : Int64} {TM : Int64} {res : Mem} (X : CX E p s m args c cX8_remembers 3 RX8) (hr : meth.sig.returnType = none) (hlk : meth.locks = false)    : ∀ (M : Mem), gX8_remembers_54 M = some res → ∀ (H : Heap) (locs : List Loc) (ls : Array Slot), WW E b MC TC M TM s H locs → lv_has ls 3 [(0, .ref (b + 197))] → W p l e rmX8_remembers s m args below meth c H locs 0 0 (MQ below (va_Qv (fun (_ : Unit) => True) (fun _ t => PW E b MC TC res TM t) (AA b)) args s 0 0 (AA b)) (F0 m 54 ls []) := by
  have hx := X.1
  have hb := X.2.1
  intro M hf H locs ls hw hl
  rw [gX8_remembers_54] at hf
  refine lv_bipush (v := 113) hx hb dX8_remembers_54 (by decide) ?_
  refine lv_bipush (v := 112) hx hb dX8_remembers_56 (by decide) ?_
  refine lv_aload_n hx hb dX8_remembers_58 rfl (lv_at hl 0 rfl) ?_
  refine gt_X8 X hw 5 kk_197 rfl (by decide) mw_726 rfl dX8_remembers_59 ?_
  refine lv_bipush (v := 112) hx hb dX8_remembers_62 (by decide) ?_
  obtain ⟨v122, q123, hf⟩ := ob hf
  refine aldM X hw kdv_201 q123 dX8_remembers_64 ?_
  refine lv_imul hx hb dX8_remembers_65 ?_
  refine lv_iadd hx hb dX8_remembers_66 ?_
  refine lv_topi (fun z124 ez124 => ?_)
  replace hf := nmb hf ez124
  refine lv_istore_n (lv' := [(1, .int z124), (0, .ref (b + 197))]) hx hb dX8_remembers_67 rfl hl (by decide) rfl (fun ls hl => ?_)
  refine lv_iconst (v := 0) hx hb dX8_remembers_68 (by decide) ?_
  refine lv_istore_n (lv' := [(2, .int 0), (1, .int z124), (0, .ref (b + 197))]) hx hb dX8_remembers_69 rfl hl (by decide) rfl (fun ls hl => ?_)
  exact tX8_remembers_70 X hr hlk FU z124 0 M hf H locs ls hw (lv_sub hl [2, 1, 0] rfl)
set_option maxHeartbeats 4000000 in
set_option maxRecDepth 100000 in
theorem tX8_remembers_15 {p : Program} {l : Launch} {e : Env} {s : State} {m : MethodId} {args : Array Value} {below : List Frame} {meth : Method} {c : Code} {E : EE} {b : Nat} {MC : Mem} {TC : Int64} {TM : Int64} {res : Mem} (X : CX E p s m args c cX8_remembers 3 RX8) (hr : meth.sig.returnType = none) (hlk : meth.locks = false)    : ∀ (n : Nat) (x1 : Int32) (M : Mem), gX8_remembers_15 n x1 M = some res → ∀ (H : Heap) (locs : List Loc) (ls : Array Slot), WW E b MC TC M TM s H locs → lv_has ls 3 [(0, .ref (b + 197)), (1, .int x1)] → W p l e rmX8_remembers s m args below meth c H locs 0 0 (MQ below (va_Qv (fun (_ : Unit) => True) (fun _ t => PW E b MC TC res TM t) (AA b)) args s 0 0 (AA b)) (F0 m 15 ls []) := by
  have hx := X.1
  have hb := X.2.1
  intro n
  induction n with
  | zero =>
    intro x1 M hf
    cases (show (none : Option (Mem)) = some res from hf)
  | succ n ih =>
    intro x1 M hf H locs ls hw hl
    rw [gX8_remembers_15] at hf
    refine lv_iload_n hx hb dX8_remembers_15 rfl (lv_at hl 1 rfl) ?_
    refine lv_sipush (v := 1121) hx hb dX8_remembers_16 (by decide) ?_
    refine lv_icmp_ge (tgt := 43) hx hb dX8_remembers_19 (by decide) (fun c135 => ?_) (fun c135 => ?_)
    · replace hf := (if_pos c135).symm.trans hf
      refine lv_aload_n hx hb dX8_remembers_43 rfl (lv_at hl 0 rfl) ?_
      refine gt_X8 X hw 5 kk_197 rfl (by decide) mw_726 rfl dX8_remembers_44 ?_
      refine lv_bipush (v := 112) hx hb dX8_remembers_47 (by decide) ?_
      refine lv_dup2_11 hx hb dX8_remembers_49 rfl rfl ?_
      obtain ⟨v136, q137, hf⟩ := ob hf
      refine aldM X hw kdv_201 q137 dX8_remembers_50 ?_
      refine lv_iconst (v := 1) hx hb dX8_remembers_51 (by decide) ?_
      refine lv_isub hx hb dX8_remembers_52 ?_
      obtain ⟨M138, q139, hf⟩ := ob hf
      refine astM X hw kdv_201 q139 dX8_remembers_53 (fun H locs hw => ?_)
      exact tX8_remembers_54 X hr hlk M138 hf H locs ls hw (lv_sub hl [0] rfl)
    · replace hf := (if_neg c135).symm.trans hf
      refine lv_aload_n hx hb dX8_remembers_22 rfl (lv_at hl 0 rfl) ?_
      refine gt_X8 X hw 5 kk_197 rfl (by decide) mw_726 rfl dX8_remembers_23 ?_
      refine lv_iload_n hx hb dX8_remembers_26 rfl (lv_at hl 1 rfl) ?_
      refine lv_aload_n hx hb dX8_remembers_27 rfl (lv_at hl 0 rfl) ?_
      refine gt_X8 X hw 5 kk_197 rfl (by decide) mw_726 rfl dX8_remembers_28 ?_
      refine lv_iload_n hx hb dX8_remembers_31 rfl (lv_at hl 1 rfl) ?_
      refine lv_bipush (v := 112) hx hb dX8_remembers_32 (by decide) ?_
      refine lv_iadd hx hb dX8_remembers_34 ?_
      obtain ⟨v140, q141, hf⟩ := ob hf
      refine aldM X hw kdv_201 q141 dX8_remembers_35 ?_
      obtain ⟨M142, q143, hf⟩ := ob hf
      refine astM X hw kdv_201 q143 dX8_remembers_36 (fun H locs hw => ?_)
      obtain ⟨z144, ez144⟩ : ∃ y : Int32, y = x1 + 1 := ⟨_, rfl⟩
      replace hf := nmb hf ez144
      refine lv_iinc (v := z144) (lv' := [(1, .int z144), (0, .ref (b + 197))]) hx hb dX8_remembers_37 hl (k := 1) rfl (by rw [ez144]; rfl) (by decide) rfl (fun ls hl => ?_)
      refine lv_goto (tgt := 15) hx hb dX8_remembers_40 (by decide) ?_
      exact ih z144 M142 hf H locs ls hw (lv_sub hl [1, 0] rfl)
set_option maxHeartbeats 4000000 in
set_option maxRecDepth 100000 in
theorem ctX8_remembers (l : Launch) (E : EE) (b : Nat) {MC : Mem} {TC : Int64} {TM : Int64} {M : Mem} {res : Mem}  (hf : gX8_remembers M = some res) : MetV l E b yX8_remembers (.code yX8_remembers cX8_remembers 3 none) rmX8_remembers [.ref (b + 197)] MC TC M TM MC TC res TM := by
  refine Met.ofW (cc := cX8_remembers) (maxL := 3) (ret := none) (by decide) rfl ?_
  intro p e s m args below meth c s₁ B hml hv
  obtain ⟨rfl, hP, hK⟩ := hv
  have hx := B.exec
  have hb := B.bytes
  have X : CX E p s m _ c cX8_remembers 3 RX8 := ⟨hx, hb, hml, findClass_of_methodNamed B.named, fun w h => atoms_spec (ws := _ :: wt) B.pre w (List.mem_cons_of_mem _ h), hK⟩
  have hr := B.returns
  have hlk := B.notSynchronized
  have hw : WW E b MC TC M TM s s.heap [] := ⟨hP, va_S.rf⟩
  have hl := lv_entry ([.ref (b + 197)]) (n := 3) (Nat.le_of_ble_eq_true rfl)
  rw [lg_entry_eq]
  generalize (lg_sl ([.ref (b + 197)]) ++ List.replicate (3 - (lg_sl ([.ref (b + 197)])).length) Slot.unset).toArray = ls at hl ⊢
  have hl : lv_has ls 3 [(0, .ref (b + 197))] := hl
  obtain ⟨H, hH⟩ : ∃ H, H = s.heap := ⟨_, rfl⟩
  obtain ⟨locs, hL⟩ : ∃ L : List Loc, L = [] := ⟨_, rfl⟩
  rw [← hH, ← hL] at hw
  suffices hg : W p l e rmX8_remembers s m _ below meth c H locs 0 0 (MQ below (va_Qv (fun (_ : Unit) => True) (fun _ t => PW E b MC TC res TM t) (AA b)) _ s 0 0 (AA b)) (F0 m 0 ls []) by rw [hH, hL] at hg; exact hg
  clear hH hL
  rw [gX8_remembers] at hf
  refine lv_aload_n hx hb dX8_remembers_0 rfl (lv_at hl 0 rfl) ?_
  refine gt_X8 X hw 5 kk_197 rfl (by decide) mw_726 rfl dX8_remembers_1 ?_
  refine lv_bipush (v := 112) hx hb dX8_remembers_4 (by decide) ?_
  obtain ⟨v119, q120, hf⟩ := ob hf
  refine aldM X hw kdv_201 q120 dX8_remembers_6 ?_
  refine lv_bipush (v := 10) hx hb dX8_remembers_7 (by decide) ?_
  refine lv_icmp_ne (tgt := 54) hx hb dX8_remembers_9 (by decide) (fun c121 => ?_) (fun c121 => ?_)
  · replace hf := (if_neg c121).symm.trans hf
    exact tX8_remembers_54 X hr hlk M hf H locs ls hw (lv_sub hl [0] rfl)
  · replace hf := (if_pos c121).symm.trans hf
    refine lv_bipush (v := 113) hx hb dX8_remembers_12 (by decide) ?_
    refine lv_istore_n (lv' := [(1, .int 113), (0, .ref (b + 197))]) hx hb dX8_remembers_14 rfl hl (by decide) rfl (fun ls hl => ?_)
    exact tX8_remembers_15 X hr hlk FU 113 M hf H locs ls hw (lv_sub hl [1, 0] rfl)
