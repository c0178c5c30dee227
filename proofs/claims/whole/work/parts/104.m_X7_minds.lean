abbrev rmX7_minds : Room := { frames := 3, cells := 0, slots := 0, locals := 101 }
theorem hd_X7_minds : Hd yX7_minds RX7 2 := by decide +kernel
def gX7_minds (x1 : Int32) (x2 : Int32) (M : Mem) : Option (Int32 × Mem) := (gX7_isOne x1 M).bind fun u1 => if u1 = 0 then (some ((-1), M)) else ((gX7_isThought x2).bind fun u4 => if u4 = 0 then (some ((-1), M)) else ((ldA 5 (M 11) x1).bind fun v7 => if v7 = x2 then (some ((-2), M)) else ((gX5_remember 8 M).bind fun u10 => (stA 5 u10 11 x1 x2).bind fun M12 => some (v7, M12))))
set_option maxHeartbeats 4000000 in
set_option maxRecDepth 100000 in
theorem ctX7_minds (l : Launch) (E : EE) (b : Nat) {TC : Int64} {MM : Mem} {TM : Int64} {x1 : Int32} {x2 : Int32} {M : Mem} {res : Int32 × Mem}  (hf : gX7_minds x1 x2 M = some res) : MetI l E b yX7_minds (.code yX7_minds cX7_minds 4 (some .int)) rmX7_minds [.ref (b + 0), .int x1, .int x2] M TC MM TM res.1 res.2 TC MM TM := by
  refine Met.ofW (cc := cX7_minds) (maxL := 4) (ret := (some .int)) (by decide) rfl ?_
  intro p e s m args below meth c s₁ B hml hv
  obtain ⟨rfl, hP, hK⟩ := hv
  have hx := B.exec
  have hb := B.bytes
  have X : CX E p s m _ c cX7_minds 4 RX7 := ⟨hx, hb, hml, findClass_of_methodNamed B.named, fun w h => atoms_spec (ws := _ :: wt) B.pre w (List.mem_cons_of_mem _ h), hK⟩
  have hr := B.returns
  have hlk := B.notSynchronized
  have hw : WW E b M TC MM TM s s.heap [] := ⟨hP, va_S.rf⟩
  have hl := lv_entry ([.ref (b + 0), .int x1, .int x2]) (n := 4) (Nat.le_of_ble_eq_true rfl)
  rw [lg_entry_eq]
  generalize (lg_sl ([.ref (b + 0), .int x1, .int x2]) ++ List.replicate (4 - (lg_sl ([.ref (b + 0), .int x1, .int x2])).length) Slot.unset).toArray = ls at hl ⊢
  have hl : lv_has ls 4 [(0, .ref (b + 0)), (1, .int x1), (2, .int x2)] := hl
  obtain ⟨H, hH⟩ : ∃ H, H = s.heap := ⟨_, rfl⟩
  obtain ⟨locs, hL⟩ : ∃ L : List Loc, L = [] := ⟨_, rfl⟩
  rw [← hH, ← hL] at hw
  suffices hg : W p l e rmX7_minds s m _ below meth c H locs 0 0 (MQ below (va_Qi (fun x (_ : Unit) => x = res.1) (fun _ t => PW E b res.2 TC MM TM t) (AA b)) _ s 0 0 (AA b)) (F0 m 0 ls []) by rw [hH, hL] at hg; exact hg
  clear hH hL
  rw [gX7_minds] at hf
  refine lv_aload_n hx hb dX7_minds_0 rfl (lv_at hl 0 rfl) ?_
  refine lv_iload_n hx hb dX7_minds_1 rfl (lv_at hl 1 rfl) ?_
  obtain ⟨u1, q2, hf⟩ := ob hf
  refine cVi (As := [.int x1]) X hw (ctX7_isOne l E b  q2) ⟨mw_404, mw_406, mw_9, mw_52, mw_407⟩ hd_X7_isOne ⟨Nat.le_of_ble_eq_true rfl, Nat.le_of_ble_eq_true rfl, rfl, rfl⟩ (kdk kk_0 (by decide)) (ce_X7 E _ _ _ _ kk_0) (show vwCl[7]? = some (RX7, TX7, 11) from rfl) rfl hl.1 rfl (Nat.le_of_ble_eq_true rfl) dX7_minds_2 (fun H locs hw => ?_)
  refine lv_if_eq (tgt := 15) hx hb dX7_minds_5 (by decide) (fun c3 => ?_) (fun c3 => ?_)
  · replace hf := (if_pos c3).symm.trans hf
    refine lv_iconst (v := (-1)) hx hb dX7_minds_15 (by decide) ?_
    replace hf := Option.some.inj hf
    subst hf
    exact eI X hw hr hlk dX7_minds_16
  · replace hf := (if_neg c3).symm.trans hf
    refine lv_iload_n hx hb dX7_minds_8 rfl (lv_at hl 2 rfl) ?_
    obtain ⟨u4, q5, hf⟩ := ob hf
    refine cSi (As := [.int x2]) X hw (ctX7_isThought l E b  q5) ⟨mw_432, mw_433, mw_52, mw_434⟩ hd_X7_isThought ⟨Nat.le_of_ble_eq_true rfl, Nat.le_of_ble_eq_true rfl, rfl, rfl⟩ rfl hl.1 rfl (Nat.le_of_ble_eq_true rfl) dX7_minds_9 (fun H locs hw => ?_)
    refine lv_if_ne (tgt := 17) hx hb dX7_minds_12 (by decide) (fun c6 => ?_) (fun c6 => ?_)
    · replace hf := (if_neg c6).symm.trans hf
      refine lv_aload_n hx hb dX7_minds_17 rfl (lv_at hl 0 rfl) ?_
      refine gt_X7 X hw 2 kk_0 rfl (by decide) mw_280 rfl dX7_minds_18 ?_
      refine gt_X5 X hw 0 kk_8 rfl (by decide) mw_205 rfl dX7_minds_21 ?_
      refine gt_X1 X hw 1 kk_9 rfl (by decide) mw_183 rfl dX7_minds_24 ?_
      refine lv_iload_n hx hb dX7_minds_27 rfl (lv_at hl 1 rfl) ?_
      obtain ⟨v7, q8, hf⟩ := ob hf
      refine aldC X hw kdv_11 q8 dX7_minds_28 ?_
      refine lv_istore_n (lv' := [(3, .int v7), (0, .ref (b + 0)), (1, .int x1), (2, .int x2)]) hx hb dX7_minds_29 rfl hl (by decide) rfl (fun ls hl => ?_)
      refine lv_iload_n hx hb dX7_minds_30 rfl (lv_at hl 0 rfl) ?_
      refine lv_iload_n hx hb dX7_minds_31 rfl (lv_at hl 3 rfl) ?_
      refine lv_icmp_ne (tgt := 38) hx hb dX7_minds_32 (by decide) (fun c9 => ?_) (fun c9 => ?_)
      · replace hf := (if_neg c9).symm.trans hf
        refine lv_aload_n hx hb dX7_minds_38 rfl (lv_at hl 1 rfl) ?_
        refine gt_X7 X hw 2 kk_0 rfl (by decide) mw_280 rfl dX7_minds_39 ?_
        obtain ⟨u10, q11, hf⟩ := ob hf
        refine cVv (As := []) X hw (ctX5_remember l E b kk_8 q11) ⟨mw_443, mw_444, mw_445, mw_56, mw_446⟩ hd_X5_remember ⟨Nat.le_of_ble_eq_true rfl, Nat.le_of_ble_eq_true rfl, rfl, rfl⟩ (kdk kk_8 (by decide)) (ce_X5 E _ _ _ _ kk_8) (show vwCl[5]? = some (RX5, TX5, 3) from rfl) rfl hl.1 rfl (Nat.le_of_ble_eq_true rfl) dX7_minds_42 (fun H locs hw => ?_)
        refine lv_aload_n hx hb dX7_minds_45 rfl (lv_at hl 1 rfl) ?_
        refine gt_X7 X hw 2 kk_0 rfl (by decide) mw_280 rfl dX7_minds_46 ?_
        refine gt_X5 X hw 0 kk_8 rfl (by decide) mw_205 rfl dX7_minds_49 ?_
        refine gt_X1 X hw 1 kk_9 rfl (by decide) mw_183 rfl dX7_minds_52 ?_
        refine lv_iload_n hx hb dX7_minds_55 rfl (lv_at hl 2 rfl) ?_
        refine lv_iload_n hx hb dX7_minds_56 rfl (lv_at hl 3 rfl) ?_
        obtain ⟨M12, q13, hf⟩ := ob hf
        refine astC X hw kdv_11 q13 dX7_minds_57 (fun H locs hw => ?_)
        refine lv_iload_n hx hb dX7_minds_58 rfl (lv_at hl 0 rfl) ?_
        replace hf := Option.some.inj hf
        subst hf
        exact eI X hw hr hlk dX7_minds_59
      · replace hf := (if_pos c9).symm.trans hf
        refine lv_bipush (v := (-2)) hx hb dX7_minds_35 (by decide) ?_
        replace hf := Option.some.inj hf
        subst hf
        exact eI X hw hr hlk dX7_minds_37
    · replace hf := (if_pos c6).symm.trans hf
      refine lv_iconst (v := (-1)) hx hb dX7_minds_15 (by decide) ?_
      replace hf := Option.some.inj hf
      subst hf
      exact eI X hw hr hlk dX7_minds_16

abbrev rmX7_cuts : Room := { frames := 3, cells := 0, slots := 0, locals := 101 }
theorem hd_X7_cuts : Hd yX7_cuts RX7 2 := by decide +kernel
def gX7_cuts (x1 : Int32) (x2 : Int32) (M : Mem) : Option (Int32 × Mem) := (gX7_isOne x1 M).bind fun u14 => if u14 = 0 then (some ((-1), M)) else ((gX7_within x2 1 12).bind fun u17 => if u17 = 0 then (some ((-1), M)) else ((ldA 5 (M 10) x1).bind fun v20 => if x2 ≤ v20 then ((gX5_remember 8 M).bind fun u23 => (gX1_sweep 9 x1 x2 u23).bind fun u25 => (ldA 5 (u25 10) x1).bind fun v27 => some (v27, u25)) else (some ((-2), M))))
set_option maxHeartbeats 4000000 in
set_option maxRecDepth 100000 in
theorem ctX7_cuts (l : Launch) (E : EE) (b : Nat) {TC : Int64} {MM : Mem} {TM : Int64} {x1 : Int32} {x2 : Int32} {M : Mem} {res : Int32 × Mem}  (hf : gX7_cuts x1 x2 M = some res) : MetI l E b yX7_cuts (.code yX7_cuts cX7_cuts 3 (some .int)) rmX7_cuts [.ref (b + 0), .int x1, .int x2] M TC MM TM res.1 res.2 TC MM TM := by
  refine Met.ofW (cc := cX7_cuts) (maxL := 3) (ret := (some .int)) (by decide) rfl ?_
  intro p e s m args below meth c s₁ B hml hv
  obtain ⟨rfl, hP, hK⟩ := hv
  have hx := B.exec
  have hb := B.bytes
  have X : CX E p s m _ c cX7_cuts 3 RX7 := ⟨hx, hb, hml, findClass_of_methodNamed B.named, fun w h => atoms_spec (ws := _ :: wt) B.pre w (List.mem_cons_of_mem _ h), hK⟩
  have hr := B.returns
  have hlk := B.notSynchronized
  have hw : WW E b M TC MM TM s s.heap [] := ⟨hP, va_S.rf⟩
  have hl := lv_entry ([.ref (b + 0), .int x1, .int x2]) (n := 3) (Nat.le_of_ble_eq_true rfl)
  rw [lg_entry_eq]
  generalize (lg_sl ([.ref (b + 0), .int x1, .int x2]) ++ List.replicate (3 - (lg_sl ([.ref (b + 0), .int x1, .int x2])).length) Slot.unset).toArray = ls at hl ⊢
  have hl : lv_has ls 3 [(0, .ref (b + 0)), (1, .int x1), (2, .int x2)] := hl
  obtain ⟨H, hH⟩ : ∃ H, H = s.heap := ⟨_, rfl⟩
  obtain ⟨locs, hL⟩ : ∃ L : List Loc, L = [] := ⟨_, rfl⟩
  rw [← hH, ← hL] at hw
  suffices hg : W p l e rmX7_cuts s m _ below meth c H locs 0 0 (MQ below (va_Qi (fun x (_ : Unit) => x = res.1) (fun _ t => PW E b res.2 TC MM TM t) (AA b)) _ s 0 0 (AA b)) (F0 m 0 ls []) by rw [hH, hL] at hg; exact hg
  clear hH hL
  rw [gX7_cuts] at hf
  refine lv_aload_n hx hb dX7_cuts_0 rfl (lv_at hl 0 rfl) ?_
  refine lv_iload_n hx hb dX7_cuts_1 rfl (lv_at hl 1 rfl) ?_
  obtain ⟨u14, q15, hf⟩ := ob hf
  refine cVi (As := [.int x1]) X hw (ctX7_isOne l E b  q15) ⟨mw_404, mw_406, mw_9, mw_52, mw_407⟩ hd_X7_isOne ⟨Nat.le_of_ble_eq_true rfl, Nat.le_of_ble_eq_true rfl, rfl, rfl⟩ (kdk kk_0 (by decide)) (ce_X7 E _ _ _ _ kk_0) (show vwCl[7]? = some (RX7, TX7, 11) from rfl) rfl hl.1 rfl (Nat.le_of_ble_eq_true rfl) dX7_cuts_2 (fun H locs hw => ?_)
  refine lv_if_eq (tgt := 18) hx hb dX7_cuts_5 (by decide) (fun c16 => ?_) (fun c16 => ?_)
  · replace hf := (if_pos c16).symm.trans hf
    refine lv_iconst (v := (-1)) hx hb dX7_cuts_18 (by decide) ?_
    replace hf := Option.some.inj hf
    subst hf
    exact eI X hw hr hlk dX7_cuts_19
  · replace hf := (if_neg c16).symm.trans hf
    refine lv_iload_n hx hb dX7_cuts_8 rfl (lv_at hl 2 rfl) ?_
    refine lv_iconst (v := 1) hx hb dX7_cuts_9 (by decide) ?_
    refine lv_bipush (v := 12) hx hb dX7_cuts_10 (by decide) ?_
    obtain ⟨u17, q18, hf⟩ := ob hf
    refine cSi (As := [.int x2, .int 1, .int 12]) X hw (ctX7_within l E b  q18) ⟨mw_316, mw_317, mw_52, mw_318⟩ hd_X7_within ⟨Nat.le_of_ble_eq_true rfl, Nat.le_of_ble_eq_true rfl, rfl, rfl⟩ rfl hl.1 rfl (Nat.le_of_ble_eq_true rfl) dX7_cuts_12 (fun H locs hw => ?_)
    refine lv_if_ne (tgt := 20) hx hb dX7_cuts_15 (by decide) (fun c19 => ?_) (fun c19 => ?_)
    · replace hf := (if_neg c19).symm.trans hf
      refine lv_iload_n hx hb dX7_cuts_20 rfl (lv_at hl 2 rfl) ?_
      refine lv_aload_n hx hb dX7_cuts_21 rfl (lv_at hl 0 rfl) ?_
      refine gt_X7 X hw 2 kk_0 rfl (by decide) mw_280 rfl dX7_cuts_22 ?_
      refine gt_X5 X hw 0 kk_8 rfl (by decide) mw_205 rfl dX7_cuts_25 ?_
      refine gt_X1 X hw 0 kk_9 rfl (by decide) mw_181 rfl dX7_cuts_28 ?_
      refine lv_iload_n hx hb dX7_cuts_31 rfl (lv_at hl 1 rfl) ?_
      obtain ⟨v20, q21, hf⟩ := ob hf
      refine aldC X hw kdv_10 q21 dX7_cuts_32 ?_
      refine lv_icmp_le (tgt := 39) hx hb dX7_cuts_33 (by decide) (fun c22 => ?_) (fun c22 => ?_)
      · replace hf := (if_pos c22).symm.trans hf
        refine lv_aload_n hx hb dX7_cuts_39 rfl (lv_at hl 0 rfl) ?_
        refine gt_X7 X hw 2 kk_0 rfl (by decide) mw_280 rfl dX7_cuts_40 ?_
        obtain ⟨u23, q24, hf⟩ := ob hf
        refine cVv (As := []) X hw (ctX5_remember l E b kk_8 q24) ⟨mw_443, mw_444, mw_445, mw_56, mw_446⟩ hd_X5_remember ⟨Nat.le_of_ble_eq_true rfl, Nat.le_of_ble_eq_true rfl, rfl, rfl⟩ (kdk kk_8 (by decide)) (ce_X5 E _ _ _ _ kk_8) (show vwCl[5]? = some (RX5, TX5, 3) from rfl) rfl hl.1 rfl (Nat.le_of_ble_eq_true rfl) dX7_cuts_43 (fun H locs hw => ?_)
        refine lv_aload_n hx hb dX7_cuts_46 rfl (lv_at hl 0 rfl) ?_
        refine gt_X7 X hw 2 kk_0 rfl (by decide) mw_280 rfl dX7_cuts_47 ?_
        refine gt_X5 X hw 0 kk_8 rfl (by decide) mw_205 rfl dX7_cuts_50 ?_
        refine lv_iload_n hx hb dX7_cuts_53 rfl (lv_at hl 1 rfl) ?_
        refine lv_iload_n hx hb dX7_cuts_54 rfl (lv_at hl 2 rfl) ?_
        obtain ⟨u25, q26, hf⟩ := ob hf
        refine cVv (As := [.int x1, .int x2]) X hw (ctX1_sweep l E b kk_9 q26) ⟨mw_480, mw_481, mw_482, mw_57, mw_483⟩ hd_X1_sweep ⟨Nat.le_of_ble_eq_true rfl, Nat.le_of_ble_eq_true rfl, rfl, rfl⟩ (kdk kk_9 (by decide)) (ce_X1 E _ _ _ _ kk_9) (show vwCl[1]? = some (RX1, TX1, 6) from rfl) rfl hl.1 rfl (Nat.le_of_ble_eq_true rfl) dX7_cuts_55 (fun H locs hw => ?_)
        refine lv_aload_n hx hb dX7_cuts_58 rfl (lv_at hl 0 rfl) ?_
        refine gt_X7 X hw 2 kk_0 rfl (by decide) mw_280 rfl dX7_cuts_59 ?_
        refine gt_X5 X hw 0 kk_8 rfl (by decide) mw_205 rfl dX7_cuts_62 ?_
        refine gt_X1 X hw 0 kk_9 rfl (by decide) mw_181 rfl dX7_cuts_65 ?_
        refine lv_iload_n hx hb dX7_cuts_68 rfl (lv_at hl 1 rfl) ?_
        obtain ⟨v27, q28, hf⟩ := ob hf
        refine aldC X hw kdv_10 q28 dX7_cuts_69 ?_
        replace hf := Option.some.inj hf
        subst hf
        exact eI X hw hr hlk dX7_cuts_70
      · replace hf := (if_neg c22).symm.trans hf
        refine lv_bipush (v := (-2)) hx hb dX7_cuts_36 (by decide) ?_
        replace hf := Option.some.inj hf
        subst hf
        exact eI X hw hr hlk dX7_cuts_38
    · replace hf := (if_pos c19).symm.trans hf
      refine lv_iconst (v := (-1)) hx hb dX7_cuts_18 (by decide) ?_
      replace hf := Option.some.inj hf
      subst hf
      exact eI X hw hr hlk dX7_cuts_19

abbrev rmX7_changes : Room := { frames := 3, cells := 0, slots := 0, locals := 101 }
theorem hd_X7_changes : Hd yX7_changes RX7 1 := by decide +kernel
def gX7_changes (x1 : Int32) (M : Mem) : Option (Int32 × Mem) := (gX7_isJar x1).bind fun u29 => if u29 = 0 then (some ((-1), M)) else ((some (M 9 5)).bind fun z32 => if z32 = x1 then (some ((-2), M)) else ((gX5_remember 8 M).bind fun u34 => (some (us u34 9 5 x1)).bind fun M36 => some (z32, M36)))
set_option maxHeartbeats 4000000 in
set_option maxRecDepth 100000 in
theorem ctX7_changes (l : Launch) (E : EE) (b : Nat) {TC : Int64} {MM : Mem} {TM : Int64} {x1 : Int32} {M : Mem} {res : Int32 × Mem}  (hf : gX7_changes x1 M = some res) : MetI l E b yX7_changes (.code yX7_changes cX7_changes 3 (some .int)) rmX7_changes [.ref (b + 0), .int x1] M TC MM TM res.1 res.2 TC MM TM := by
  refine Met.ofW (cc := cX7_changes) (maxL := 3) (ret := (some .int)) (by decide) rfl ?_
  intro p e s m args below meth c s₁ B hml hv
  obtain ⟨rfl, hP, hK⟩ := hv
  have hx := B.exec
  have hb := B.bytes
  have X : CX E p s m _ c cX7_changes 3 RX7 := ⟨hx, hb, hml, findClass_of_methodNamed B.named, fun w h => atoms_spec (ws := _ :: wt) B.pre w (List.mem_cons_of_mem _ h), hK⟩
  have hr := B.returns
  have hlk := B.notSynchronized
  have hw : WW E b M TC MM TM s s.heap [] := ⟨hP, va_S.rf⟩
  have hl := lv_entry ([.ref (b + 0), .int x1]) (n := 3) (Nat.le_of_ble_eq_true rfl)
  rw [lg_entry_eq]
  generalize (lg_sl ([.ref (b + 0), .int x1]) ++ List.replicate (3 - (lg_sl ([.ref (b + 0), .int x1])).length) Slot.unset).toArray = ls at hl ⊢
  have hl : lv_has ls 3 [(0, .ref (b + 0)), (1, .int x1)] := hl
  obtain ⟨H, hH⟩ : ∃ H, H = s.heap := ⟨_, rfl⟩
  obtain ⟨locs, hL⟩ : ∃ L : List Loc, L = [] := ⟨_, rfl⟩
  rw [← hH, ← hL] at hw
  suffices hg : W p l e rmX7_changes s m _ below meth c H locs 0 0 (MQ below (va_Qi (fun x (_ : Unit) => x = res.1) (fun _ t => PW E b res.2 TC MM TM t) (AA b)) _ s 0 0 (AA b)) (F0 m 0 ls []) by rw [hH, hL] at hg; exact hg
  clear hH hL
  rw [gX7_changes] at hf
  refine lv_iload_n hx hb dX7_changes_0 rfl (lv_at hl 1 rfl) ?_
  obtain ⟨u29, q30, hf⟩ := ob hf
  refine cSi (As := [.int x1]) X hw (ctX7_isJar l E b  q30) ⟨mw_429, mw_430, mw_52, mw_431⟩ hd_X7_isJar ⟨Nat.le_of_ble_eq_true rfl, Nat.le_of_ble_eq_true rfl, rfl, rfl⟩ rfl hl.1 rfl (Nat.le_of_ble_eq_true rfl) dX7_changes_1 (fun H locs hw => ?_)
  refine lv_if_ne (tgt := 9) hx hb dX7_changes_4 (by decide) (fun c31 => ?_) (fun c31 => ?_)
  · replace hf := (if_neg c31).symm.trans hf
    refine lv_aload_n hx hb dX7_changes_9 rfl (lv_at hl 0 rfl) ?_
    refine gt_X7 X hw 2 kk_0 rfl (by decide) mw_280 rfl dX7_changes_10 ?_
    refine gt_X5 X hw 0 kk_8 rfl (by decide) mw_205 rfl dX7_changes_13 ?_
    refine gt_X1 X hw 5 kk_9 rfl (by decide) mw_189 rfl dX7_changes_16 ?_
    refine lv_topi (fun z32 ez32 => ?_)
    replace hf := nmb hf ez32
    refine lv_istore_n (lv' := [(2, .int z32), (0, .ref (b + 0)), (1, .int x1)]) hx hb dX7_changes_19 rfl hl (by decide) rfl (fun ls hl => ?_)
    refine lv_iload_n hx hb dX7_changes_20 rfl (lv_at hl 0 rfl) ?_
    refine lv_iload_n hx hb dX7_changes_21 rfl (lv_at hl 2 rfl) ?_
    refine lv_icmp_ne (tgt := 28) hx hb dX7_changes_22 (by decide) (fun c33 => ?_) (fun c33 => ?_)
    · replace hf := (if_neg c33).symm.trans hf
      refine lv_aload_n hx hb dX7_changes_28 rfl (lv_at hl 1 rfl) ?_
      refine gt_X7 X hw 2 kk_0 rfl (by decide) mw_280 rfl dX7_changes_29 ?_
      obtain ⟨u34, q35, hf⟩ := ob hf
      refine cVv (As := []) X hw (ctX5_remember l E b kk_8 q35) ⟨mw_443, mw_444, mw_445, mw_56, mw_446⟩ hd_X5_remember ⟨Nat.le_of_ble_eq_true rfl, Nat.le_of_ble_eq_true rfl, rfl, rfl⟩ (kdk kk_8 (by decide)) (ce_X5 E _ _ _ _ kk_8) (show vwCl[5]? = some (RX5, TX5, 3) from rfl) rfl hl.1 rfl (Nat.le_of_ble_eq_true rfl) dX7_changes_32 (fun H locs hw => ?_)
      refine lv_aload_n hx hb dX7_changes_35 rfl (lv_at hl 1 rfl) ?_
      refine gt_X7 X hw 2 kk_0 rfl (by decide) mw_280 rfl dX7_changes_36 ?_
      refine gt_X5 X hw 0 kk_8 rfl (by decide) mw_205 rfl dX7_changes_39 ?_
      refine lv_iload_n hx hb dX7_changes_42 rfl (lv_at hl 2 rfl) ?_
      obtain ⟨M36, eM36, hf⟩ := ob hf
      refine pt_X1_5 X hw kk_9 mw_189 dX7_changes_43 (fun H locs hw => ?_)
      rw [Option.some.inj eM36] at hw
      refine lv_iload_n hx hb dX7_changes_46 rfl (lv_at hl 0 rfl) ?_
      replace hf := Option.some.inj hf
      subst hf
      exact eI X hw hr hlk dX7_changes_47
    · replace hf := (if_pos c33).symm.trans hf
      refine lv_bipush (v := (-2)) hx hb dX7_changes_25 (by decide) ?_
      replace hf := Option.some.inj hf
      subst hf
      exact eI X hw hr hlk dX7_changes_27
  · replace hf := (if_pos c31).symm.trans hf
    refine lv_iconst (v := (-1)) hx hb dX7_changes_7 (by decide) ?_
    replace hf := Option.some.inj hf
    subst hf
    exact eI X hw hr hlk dX7_changes_8

abbrev rmX7_empties : Room := { frames := 3, cells := 0, slots := 0, locals := 101 }
theorem hd_X7_empties : Hd yX7_empties RX7 1 := by decide +kernel
def gX7_empties (x1 : Int32) (M : Mem) : Option (Int32 × Mem) := (gX7_isJar x1).bind fun u37 => if u37 = 0 then (some ((-1), M)) else ((gX1_sweptInto 9 x1 M).bind fun u40 => if u40 = 0 then (some ((-2), M)) else ((gX5_remember 8 M).bind fun u43 => (gX1_pourOut 9 x1 u43).bind fun u45 => some (u40, u45)))
set_option maxHeartbeats 4000000 in
set_option maxRecDepth 100000 in
theorem ctX7_empties (l : Launch) (E : EE) (b : Nat) {TC : Int64} {MM : Mem} {TM : Int64} {x1 : Int32} {M : Mem} {res : Int32 × Mem}  (hf : gX7_empties x1 M = some res) : MetI l E b yX7_empties (.code yX7_empties cX7_empties 3 (some .int)) rmX7_empties [.ref (b + 0), .int x1] M TC MM TM res.1 res.2 TC MM TM := by
  refine Met.ofW (cc := cX7_empties) (maxL := 3) (ret := (some .int)) (by decide) rfl ?_
  intro p e s m args below meth c s₁ B hml hv
  obtain ⟨rfl, hP, hK⟩ := hv
  have hx := B.exec
  have hb := B.bytes
  have X : CX E p s m _ c cX7_empties 3 RX7 := ⟨hx, hb, hml, findClass_of_methodNamed B.named, fun w h => atoms_spec (ws := _ :: wt) B.pre w (List.mem_cons_of_mem _ h), hK⟩
  have hr := B.returns
  have hlk := B.notSynchronized
  have hw : WW E b M TC MM TM s s.heap [] := ⟨hP, va_S.rf⟩
  have hl := lv_entry ([.ref (b + 0), .int x1]) (n := 3) (Nat.le_of_ble_eq_true rfl)
  rw [lg_entry_eq]
  generalize (lg_sl ([.ref (b + 0), .int x1]) ++ List.replicate (3 - (lg_sl ([.ref (b + 0), .int x1])).length) Slot.unset).toArray = ls at hl ⊢
  have hl : lv_has ls 3 [(0, .ref (b + 0)), (1, .int x1)] := hl
  obtain ⟨H, hH⟩ : ∃ H, H = s.heap := ⟨_, rfl⟩
  obtain ⟨locs, hL⟩ : ∃ L : List Loc, L = [] := ⟨_, rfl⟩
  rw [← hH, ← hL] at hw
  suffices hg : W p l e rmX7_empties s m _ below meth c H locs 0 0 (MQ below (va_Qi (fun x (_ : Unit) => x = res.1) (fun _ t => PW E b res.2 TC MM TM t) (AA b)) _ s 0 0 (AA b)) (F0 m 0 ls []) by rw [hH, hL] at hg; exact hg
  clear hH hL
  rw [gX7_empties] at hf
  refine lv_iload_n hx hb dX7_empties_0 rfl (lv_at hl 1 rfl) ?_
  obtain ⟨u37, q38, hf⟩ := ob hf
  refine cSi (As := [.int x1]) X hw (ctX7_isJar l E b  q38) ⟨mw_429, mw_430, mw_52, mw_431⟩ hd_X7_isJar ⟨Nat.le_of_ble_eq_true rfl, Nat.le_of_ble_eq_true rfl, rfl, rfl⟩ rfl hl.1 rfl (Nat.le_of_ble_eq_true rfl) dX7_empties_1 (fun H locs hw => ?_)
  refine lv_if_ne (tgt := 9) hx hb dX7_empties_4 (by decide) (fun c39 => ?_) (fun c39 => ?_)
  · replace hf := (if_neg c39).symm.trans hf
    refine lv_aload_n hx hb dX7_empties_9 rfl (lv_at hl 0 rfl) ?_
    refine gt_X7 X hw 2 kk_0 rfl (by decide) mw_280 rfl dX7_empties_10 ?_
    refine gt_X5 X hw 0 kk_8 rfl (by decide) mw_205 rfl dX7_empties_13 ?_
    refine lv_iload_n hx hb dX7_empties_16 rfl (lv_at hl 1 rfl) ?_
    obtain ⟨u40, q41, hf⟩ := ob hf
    refine cVi (As := [.int x1]) X hw (ctX1_sweptInto l E b kk_9 q41) ⟨mw_493, mw_494, mw_495, mw_57, mw_496⟩ hd_X1_sweptInto ⟨Nat.le_of_ble_eq_true rfl, Nat.le_of_ble_eq_true rfl, rfl, rfl⟩ (kdk kk_9 (by decide)) (ce_X1 E _ _ _ _ kk_9) (show vwCl[1]? = some (RX1, TX1, 6) from rfl) rfl hl.1 rfl (Nat.le_of_ble_eq_true rfl) dX7_empties_17 (fun H locs hw => ?_)
    refine lv_istore_n (lv' := [(2, .int u40), (0, .ref (b + 0)), (1, .int x1)]) hx hb dX7_empties_20 rfl hl (by decide) rfl (fun ls hl => ?_)
    refine lv_iload_n hx hb dX7_empties_21 rfl (lv_at hl 0 rfl) ?_
    refine lv_if_ne (tgt := 28) hx hb dX7_empties_22 (by decide) (fun c42 => ?_) (fun c42 => ?_)
    · replace hf := (if_neg c42).symm.trans hf
      refine lv_aload_n hx hb dX7_empties_28 rfl (lv_at hl 1 rfl) ?_
      refine gt_X7 X hw 2 kk_0 rfl (by decide) mw_280 rfl dX7_empties_29 ?_
      obtain ⟨u43, q44, hf⟩ := ob hf
      refine cVv (As := []) X hw (ctX5_remember l E b kk_8 q44) ⟨mw_443, mw_444, mw_445, mw_56, mw_446⟩ hd_X5_remember ⟨Nat.le_of_ble_eq_true rfl, Nat.le_of_ble_eq_true rfl, rfl, rfl⟩ (kdk kk_8 (by decide)) (ce_X5 E _ _ _ _ kk_8) (show vwCl[5]? = some (RX5, TX5, 3) from rfl) rfl hl.1 rfl (Nat.le_of_ble_eq_true rfl) dX7_empties_32 (fun H locs hw => ?_)
      refine lv_aload_n hx hb dX7_empties_35 rfl (lv_at hl 1 rfl) ?_
      refine gt_X7 X hw 2 kk_0 rfl (by decide) mw_280 rfl dX7_empties_36 ?_
      refine gt_X5 X hw 0 kk_8 rfl (by decide) mw_205 rfl dX7_empties_39 ?_
      refine lv_iload_n hx hb dX7_empties_42 rfl (lv_at hl 2 rfl) ?_
      obtain ⟨u45, q46, hf⟩ := ob hf
      refine cVv (As := [.int x1]) X hw (ctX1_pourOut l E b kk_9 q46) ⟨mw_498, mw_499, mw_500, mw_57, mw_501⟩ hd_X1_pourOut ⟨Nat.le_of_ble_eq_true rfl, Nat.le_of_ble_eq_true rfl, rfl, rfl⟩ (kdk kk_9 (by decide)) (ce_X1 E _ _ _ _ kk_9) (show vwCl[1]? = some (RX1, TX1, 6) from rfl) rfl hl.1 rfl (Nat.le_of_ble_eq_true rfl) dX7_empties_43 (fun H locs hw => ?_)
      refine lv_iload_n hx hb dX7_empties_46 rfl (lv_at hl 0 rfl) ?_
      replace hf := Option.some.inj hf
      subst hf
      exact eI X hw hr hlk dX7_empties_47
    · replace hf := (if_pos c42).symm.trans hf
      refine lv_bipush (v := (-2)) hx hb dX7_empties_25 (by decide) ?_
      replace hf := Option.some.inj hf
      subst hf
      exact eI X hw hr hlk dX7_empties_27
  · replace hf := (if_pos c39).symm.trans hf
    refine lv_iconst (v := (-1)) hx hb dX7_empties_7 (by decide) ?_
    replace hf := Option.some.inj hf
    subst hf
    exact eI X hw hr hlk dX7_empties_8

abbrev rmX7_undo : Room := { frames := 3, cells := 0, slots := 0, locals := 101 }
theorem hd_X7_undo : Hd yX7_undo RX7 0 := by decide +kernel
def gX7_undo (M : Mem) : Option (Int32 × Mem) := if (M 8 2) = 0 then (some ((-2), M)) else ((gX5_goBack 8 M).bind fun u48 => some (u48 8 2, u48))
set_option maxHeartbeats 4000000 in
set_option maxRecDepth 100000 in
theorem ctX7_undo (l : Launch) (E : EE) (b : Nat) {TC : Int64} {MM : Mem} {TM : Int64} {M : Mem} {res : Int32 × Mem}  (hf : gX7_undo M = some res) : MetI l E b yX7_undo (.code yX7_undo cX7_undo 1 (some .int)) rmX7_undo [.ref (b + 0)] M TC MM TM res.1 res.2 TC MM TM := by
  refine Met.ofW (cc := cX7_undo) (maxL := 1) (ret := (some .int)) (by decide) rfl ?_
  intro p e s m args below meth c s₁ B hml hv
  obtain ⟨rfl, hP, hK⟩ := hv
  have hx := B.exec
  have hb := B.bytes
  have X : CX E p s m _ c cX7_undo 1 RX7 := ⟨hx, hb, hml, findClass_of_methodNamed B.named, fun w h => atoms_spec (ws := _ :: wt) B.pre w (List.mem_cons_of_mem _ h), hK⟩
  have hr := B.returns
  have hlk := B.notSynchronized
  have hw : WW E b M TC MM TM s s.heap [] := ⟨hP, va_S.rf⟩
  have hl := lv_entry ([.ref (b + 0)]) (n := 1) (Nat.le_of_ble_eq_true rfl)
  rw [lg_entry_eq]
  generalize (lg_sl ([.ref (b + 0)]) ++ List.replicate (1 - (lg_sl ([.ref (b + 0)])).length) Slot.unset).toArray = ls at hl ⊢
  have hl : lv_has ls 1 [(0, .ref (b + 0))] := hl
  obtain ⟨H, hH⟩ : ∃ H, H = s.heap := ⟨_, rfl⟩
  obtain ⟨locs, hL⟩ : ∃ L : List Loc, L = [] := ⟨_, rfl⟩
  rw [← hH, ← hL] at hw
  suffices hg : W p l e rmX7_undo s m _ below meth c H locs 0 0 (MQ below (va_Qi (fun x (_ : Unit) => x = res.1) (fun _ t => PW E b res.2 TC MM TM t) (AA b)) _ s 0 0 (AA b)) (F0 m 0 ls []) by rw [hH, hL] at hg; exact hg
  clear hH hL
  rw [gX7_undo] at hf
  refine lv_aload_n hx hb dX7_undo_0 rfl (lv_at hl 0 rfl) ?_
  refine gt_X7 X hw 2 kk_0 rfl (by decide) mw_280 rfl dX7_undo_1 ?_
  refine gt_X5 X hw 2 kk_8 rfl (by decide) mw_208 rfl dX7_undo_4 ?_
  refine lv_if_ne (tgt := 13) hx hb dX7_undo_7 (by decide) (fun c47 => ?_) (fun c47 => ?_)
  · replace hf := (if_neg c47).symm.trans hf
    refine lv_aload_n hx hb dX7_undo_13 rfl (lv_at hl 0 rfl) ?_
    refine gt_X7 X hw 2 kk_0 rfl (by decide) mw_280 rfl dX7_undo_14 ?_
    obtain ⟨u48, q49, hf⟩ := ob hf
    refine cVv (As := []) X hw (ctX5_goBack l E b kk_8 q49) ⟨mw_506, mw_507, mw_508, mw_56, mw_509⟩ hd_X5_goBack ⟨Nat.le_of_ble_eq_true rfl, Nat.le_of_ble_eq_true rfl, rfl, rfl⟩ (kdk kk_8 (by decide)) (ce_X5 E _ _ _ _ kk_8) (show vwCl[5]? = some (RX5, TX5, 3) from rfl) rfl hl.1 rfl (Nat.le_of_ble_eq_true rfl) dX7_undo_17 (fun H locs hw => ?_)
    refine lv_aload_n hx hb dX7_undo_20 rfl (lv_at hl 0 rfl) ?_
    refine gt_X7 X hw 2 kk_0 rfl (by decide) mw_280 rfl dX7_undo_21 ?_
    refine gt_X5 X hw 2 kk_8 rfl (by decide) mw_208 rfl dX7_undo_24 ?_
    replace hf := Option.some.inj hf
    subst hf
    exact eI X hw hr hlk dX7_undo_27
  · replace hf := (if_pos c47).symm.trans hf
    refine lv_bipush (v := (-2)) hx hb dX7_undo_10 (by decide) ?_
    replace hf := Option.some.inj hf
    subst hf
    exact eI X hw hr hlk dX7_undo_12

abbrev rmX7_layersOfAll : Room := { frames := 0, cells := 0, slots := 0, locals := 0 }
theorem hd_X7_layersOfAll : Hd yX7_layersOfAll RX7 0 := by decide +kernel
def gX7_layersOfAll_4   : Nat → Int32 → Int32 → Mem → Option (Int32)
  | 0, _, _, _ => none
  | n + 1, x1, x2, M => if (M 191 3) ≤ x2 then (some (x1)) else ((ldA 5 (M 10) x2).bind fun v51 => (some (x1 + v51)).bind fun z53 => (some (x2 + 1)).bind fun z54 => (gX7_layersOfAll_4 n) z53 z54 M)
def gX7_layersOfAll (M : Mem) : Option (Int32) := gX7_layersOfAll_4 FU 0 0 M
set_option maxHeartbeats 4000000 in
set_option maxRecDepth 100000 in
theorem tX7_layersOfAll_4 {p : Program} {l : Launch} {e : Env} {s : State} {m : MethodId} {args : Array Value} {below : List Frame} {meth : Method} {c : Code} {E : EE} {b : Nat} {TC : Int64} {MM : Mem} {TM : Int64} {res : Int32} (X : CX E p s m args c cX7_layersOfAll 3 RX7) (hr : meth.sig.returnType = (some .int)) (hlk : meth.locks = false)    : ∀ (n : Nat) (x1 : Int32) (x2 : Int32) (M : Mem), gX7_layersOfAll_4 n x1 x2 M = some res → ∀ (H : Heap) (locs : List Loc) (ls : Array Slot), WW E b M TC MM TM s H locs → lv_has ls 3 [(0, .ref (b + 0)), (1, .int x1), (2, .int x2)] → W p l e rmX7_layersOfAll s m args below meth c H locs 0 0 (MQ below (va_Qi (fun x (_ : Unit) => x = res) (fun _ t => PW E b M TC MM TM t) (AA b)) args s 0 0 (AA b)) (F0 m 4 ls []) := by
  have hx := X.1
  have hb := X.2.1
  intro n
  induction n with
  | zero =>
    intro x1 x2 M hf
    cases (show (none : Option (Int32)) = some res from hf)
  | succ n ih =>
    intro x1 x2 M hf H locs ls hw hl
    rw [gX7_layersOfAll_4] at hf
    refine lv_iload_n hx hb dX7_layersOfAll_4 rfl (lv_at hl 2 rfl) ?_
    refine lv_aload_n hx hb dX7_layersOfAll_5 rfl (lv_at hl 0 rfl) ?_
    refine gt_X7 X hw 7 kk_0 rfl (by decide) mw_285 rfl dX7_layersOfAll_6 ?_
    refine gt_X6 X hw 3 kk_191 rfl (by decide) mw_114 rfl dX7_layersOfAll_9 ?_
    refine lv_icmp_ge (tgt := 36) hx hb dX7_layersOfAll_12 (by decide) (fun c50 => ?_) (fun c50 => ?_)
    · replace hf := (if_pos c50).symm.trans hf
      refine lv_iload_n hx hb dX7_layersOfAll_36 rfl (lv_at hl 1 rfl) ?_
      replace hf := Option.some.inj hf
      subst hf
      exact eI X hw hr hlk dX7_layersOfAll_37
    · replace hf := (if_neg c50).symm.trans hf
      refine lv_iload_n hx hb dX7_layersOfAll_15 rfl (lv_at hl 1 rfl) ?_
      refine lv_aload_n hx hb dX7_layersOfAll_16 rfl (lv_at hl 0 rfl) ?_
      refine gt_X7 X hw 2 kk_0 rfl (by decide) mw_280 rfl dX7_layersOfAll_17 ?_
      refine gt_X5 X hw 0 kk_8 rfl (by decide) mw_205 rfl dX7_layersOfAll_20 ?_
      refine gt_X1 X hw 0 kk_9 rfl (by decide) mw_181 rfl dX7_layersOfAll_23 ?_
      refine lv_iload_n hx hb dX7_layersOfAll_26 rfl (lv_at hl 2 rfl) ?_
      obtain ⟨v51, q52, hf⟩ := ob hf
      refine aldC X hw kdv_10 q52 dX7_layersOfAll_27 ?_
      refine lv_iadd hx hb dX7_layersOfAll_28 ?_
      refine lv_topi (fun z53 ez53 => ?_)
      replace hf := nmb hf ez53
      refine lv_istore_n (lv' := [(1, .int z53), (0, .ref (b + 0)), (2, .int x2)]) hx hb dX7_layersOfAll_29 rfl hl (by decide) rfl (fun ls hl => ?_)
      obtain ⟨z54, ez54⟩ : ∃ y : Int32, y = x2 + 1 := ⟨_, rfl⟩
      replace hf := nmb hf ez54
      refine lv_iinc (v := z54) (lv' := [(2, .int z54), (1, .int z53), (0, .ref (b + 0))]) hx hb dX7_layersOfAll_30 hl (k := 2) rfl (by rw [ez54]; rfl) (by decide) rfl (fun ls hl => ?_)
      refine lv_goto (tgt := 4) hx hb dX7_layersOfAll_33 (by decide) ?_
      exact ih z53 z54 M hf H locs ls hw (lv_sub hl [2, 1, 0] rfl)
set_option maxHeartbeats 4000000 in
set_option maxRecDepth 100000 in
theorem ctX7_layersOfAll (l : Launch) (E : EE) (b : Nat) {TC : Int64} {MM : Mem} {TM : Int64} {M : Mem} {res : Int32}  (hf : gX7_layersOfAll M = some res) : MetI l E b yX7_layersOfAll (.code yX7_layersOfAll cX7_layersOfAll 3 (some .int)) rmX7_layersOfAll [.ref (b + 0)] M TC MM TM res M TC MM TM := by
  refine Met.ofW (cc := cX7_layersOfAll) (maxL := 3) (ret := (some .int)) (by decide) rfl ?_
  intro p e s m args below meth c s₁ B hml hv
  obtain ⟨rfl, hP, hK⟩ := hv
  have hx := B.exec
  have hb := B.bytes
  have X : CX E p s m _ c cX7_layersOfAll 3 RX7 := ⟨hx, hb, hml, findClass_of_methodNamed B.named, fun w h => atoms_spec (ws := _ :: wt) B.pre w (List.mem_cons_of_mem _ h), hK⟩
  have hr := B.returns
  have hlk := B.notSynchronized
  have hw : WW E b M TC MM TM s s.heap [] := ⟨hP, va_S.rf⟩
  have hl := lv_entry ([.ref (b + 0)]) (n := 3) (Nat.le_of_ble_eq_true rfl)
  rw [lg_entry_eq]
  generalize (lg_sl ([.ref (b + 0)]) ++ List.replicate (3 - (lg_sl ([.ref (b + 0)])).length) Slot.unset).toArray = ls at hl ⊢
  have hl : lv_has ls 3 [(0, .ref (b + 0))] := hl
  obtain ⟨H, hH⟩ : ∃ H, H = s.heap := ⟨_, rfl⟩
  obtain ⟨locs, hL⟩ : ∃ L : List Loc, L = [] := ⟨_, rfl⟩
  rw [← hH, ← hL] at hw
  suffices hg : W p l e rmX7_layersOfAll s m _ below meth c H locs 0 0 (MQ below (va_Qi (fun x (_ : Unit) => x = res) (fun _ t => PW E b M TC MM TM t) (AA b)) _ s 0 0 (AA b)) (F0 m 0 ls []) by rw [hH, hL] at hg; exact hg
  clear hH hL
  rw [gX7_layersOfAll] at hf
  refine lv_iconst (v := 0) hx hb dX7_layersOfAll_0 (by decide) ?_
  refine lv_istore_n (lv' := [(1, .int 0), (0, .ref (b + 0))]) hx hb dX7_layersOfAll_1 rfl hl (by decide) rfl (fun ls hl => ?_)
  refine lv_iconst (v := 0) hx hb dX7_layersOfAll_2 (by decide) ?_
  refine lv_istore_n (lv' := [(2, .int 0), (1, .int 0), (0, .ref (b + 0))]) hx hb dX7_layersOfAll_3 rfl hl (by decide) rfl (fun ls hl => ?_)
  exact tX7_layersOfAll_4 X hr hlk FU 0 0 M hf H locs ls hw (lv_sub hl [2, 1, 0] rfl)

abbrev rmX7_sweptIntoAll : Room := { frames := 2, cells := 0, slots := 0, locals := 45 }
theorem hd_X7_sweptIntoAll : Hd yX7_sweptIntoAll RX7 0 := by decide +kernel
def gX7_sweptIntoAll_4   : Nat → Int32 → Int32 → Mem → Option (Int32)
  | 0, _, _, _ => none
  | n + 1, x1, x2, M => if 4 ≤ x2 then (some (x1)) else ((gX1_sweptInto 9 x2 M).bind fun u56 => (some (x1 + u56)).bind fun z58 => (some (x2 + 1)).bind fun z59 => (gX7_sweptIntoAll_4 n) z58 z59 M)
def gX7_sweptIntoAll (M : Mem) : Option (Int32) := gX7_sweptIntoAll_4 FU 0 0 M
set_option maxHeartbeats 4000000 in
set_option maxRecDepth 100000 in
theorem tX7_sweptIntoAll_4 {p : Program} {l : Launch} {e : Env} {s : State} {m : MethodId} {args : Array Value} {below : List Frame} {meth : Method} {c : Code} {E : EE} {b : Nat} {TC : Int64} {MM : Mem} {TM : Int64} {res : Int32} (X : CX E p s m args c cX7_sweptIntoAll 3 RX7) (hr : meth.sig.returnType = (some .int)) (hlk : meth.locks = false)    : ∀ (n : Nat) (x1 : Int32) (x2 : Int32) (M : Mem), gX7_sweptIntoAll_4 n x1 x2 M = some res → ∀ (H : Heap) (locs : List Loc) (ls : Array Slot), WW E b M TC MM TM s H locs → lv_has ls 3 [(0, .ref (b + 0)), (1, .int x1), (2, .int x2)] → W p l e rmX7_sweptIntoAll s m args below meth c H locs 0 0 (MQ below (va_Qi (fun x (_ : Unit) => x = res) (fun _ t => PW E b M TC MM TM t) (AA b)) args s 0 0 (AA b)) (F0 m 4 ls []) := by
  have hx := X.1
  have hb := X.2.1
  intro n
  induction n with
  | zero =>
    intro x1 x2 M hf
    cases (show (none : Option (Int32)) = some res from hf)
  | succ n ih =>
    intro x1 x2 M hf H locs ls hw hl
    rw [gX7_sweptIntoAll_4] at hf
    refine lv_iload_n hx hb dX7_sweptIntoAll_4 rfl (lv_at hl 2 rfl) ?_
    refine lv_iconst (v := 4) hx hb dX7_sweptIntoAll_5 (by decide) ?_
    refine lv_icmp_ge (tgt := 29) hx hb dX7_sweptIntoAll_6 (by decide) (fun c55 => ?_) (fun c55 => ?_)
    · replace hf := (if_pos c55).symm.trans hf
      refine lv_iload_n hx hb dX7_sweptIntoAll_29 rfl (lv_at hl 1 rfl) ?_
      replace hf := Option.some.inj hf
      subst hf
      exact eI X hw hr hlk dX7_sweptIntoAll_30
    · replace hf := (if_neg c55).symm.trans hf
      refine lv_iload_n hx hb dX7_sweptIntoAll_9 rfl (lv_at hl 1 rfl) ?_
      refine lv_aload_n hx hb dX7_sweptIntoAll_10 rfl (lv_at hl 0 rfl) ?_
      refine gt_X7 X hw 2 kk_0 rfl (by decide) mw_280 rfl dX7_sweptIntoAll_11 ?_
      refine gt_X5 X hw 0 kk_8 rfl (by decide) mw_205 rfl dX7_sweptIntoAll_14 ?_
      refine lv_iload_n hx hb dX7_sweptIntoAll_17 rfl (lv_at hl 2 rfl) ?_
      obtain ⟨u56, q57, hf⟩ := ob hf
      refine cVi (As := [.int x2]) X hw (ctX1_sweptInto l E b kk_9 q57) ⟨mw_493, mw_494, mw_495, mw_57, mw_496⟩ hd_X1_sweptInto ⟨Nat.le_of_ble_eq_true rfl, Nat.le_of_ble_eq_true rfl, rfl, rfl⟩ (kdk kk_9 (by decide)) (ce_X1 E _ _ _ _ kk_9) (show vwCl[1]? = some (RX1, TX1, 6) from rfl) rfl hl.1 rfl (Nat.le_of_ble_eq_true rfl) dX7_sweptIntoAll_18 (fun H locs hw => ?_)
      refine lv_iadd hx hb dX7_sweptIntoAll_21 ?_
      refine lv_topi (fun z58 ez58 => ?_)
      replace hf := nmb hf ez58
      refine lv_istore_n (lv' := [(1, .int z58), (0, .ref (b + 0)), (2, .int x2)]) hx hb dX7_sweptIntoAll_22 rfl hl (by decide) rfl (fun ls hl => ?_)
      obtain ⟨z59, ez59⟩ : ∃ y : Int32, y = x2 + 1 := ⟨_, rfl⟩
      replace hf := nmb hf ez59
      refine lv_iinc (v := z59) (lv' := [(2, .int z59), (1, .int z58), (0, .ref (b + 0))]) hx hb dX7_sweptIntoAll_23 hl (k := 2) rfl (by rw [ez59]; rfl) (by decide) rfl (fun ls hl => ?_)
      refine lv_goto (tgt := 4) hx hb dX7_sweptIntoAll_26 (by decide) ?_
      exact ih z58 z59 M hf H locs ls hw (lv_sub hl [2, 1, 0] rfl)
set_option maxHeartbeats 4000000 in
set_option maxRecDepth 100000 in
theorem ctX7_sweptIntoAll (l : Launch) (E : EE) (b : Nat) {TC : Int64} {MM : Mem} {TM : Int64} {M : Mem} {res : Int32}  (hf : gX7_sweptIntoAll M = some res) : MetI l E b yX7_sweptIntoAll (.code yX7_sweptIntoAll cX7_sweptIntoAll 3 (some .int)) rmX7_sweptIntoAll [.ref (b + 0)] M TC MM TM res M TC MM TM := by
  refine Met.ofW (cc := cX7_sweptIntoAll) (maxL := 3) (ret := (some .int)) (by decide) rfl ?_
  intro p e s m args below meth c s₁ B hml hv
  obtain ⟨rfl, hP, hK⟩ := hv
  have hx := B.exec
  have hb := B.bytes
  have X : CX E p s m _ c cX7_sweptIntoAll 3 RX7 := ⟨hx, hb, hml, findClass_of_methodNamed B.named, fun w h => atoms_spec (ws := _ :: wt) B.pre w (List.mem_cons_of_mem _ h), hK⟩
  have hr := B.returns
  have hlk := B.notSynchronized
  have hw : WW E b M TC MM TM s s.heap [] := ⟨hP, va_S.rf⟩
  have hl := lv_entry ([.ref (b + 0)]) (n := 3) (Nat.le_of_ble_eq_true rfl)
  rw [lg_entry_eq]
  generalize (lg_sl ([.ref (b + 0)]) ++ List.replicate (3 - (lg_sl ([.ref (b + 0)])).length) Slot.unset).toArray = ls at hl ⊢
  have hl : lv_has ls 3 [(0, .ref (b + 0))] := hl
  obtain ⟨H, hH⟩ : ∃ H, H = s.heap := ⟨_, rfl⟩
  obtain ⟨locs, hL⟩ : ∃ L : List Loc, L = [] := ⟨_, rfl⟩
  rw [← hH, ← hL] at hw
  suffices hg : W p l e rmX7_sweptIntoAll s m _ below meth c H locs 0 0 (MQ below (va_Qi (fun x (_ : Unit) => x = res) (fun _ t => PW E b M TC MM TM t) (AA b)) _ s 0 0 (AA b)) (F0 m 0 ls []) by rw [hH, hL] at hg; exact hg
  clear hH hL
  rw [gX7_sweptIntoAll] at hf
  refine lv_iconst (v := 0) hx hb dX7_sweptIntoAll_0 (by decide) ?_
  refine lv_istore_n (lv' := [(1, .int 0), (0, .ref (b + 0))]) hx hb dX7_sweptIntoAll_1 rfl hl (by decide) rfl (fun ls hl => ?_)
  refine lv_iconst (v := 0) hx hb dX7_sweptIntoAll_2 (by decide) ?_
  refine lv_istore_n (lv' := [(2, .int 0), (1, .int 0), (0, .ref (b + 0))]) hx hb dX7_sweptIntoAll_3 rfl hl (by decide) rfl (fun ls hl => ?_)
  exact tX7_sweptIntoAll_4 X hr hlk FU 0 0 M hf H locs ls hw (lv_sub hl [2, 1, 0] rfl)

abbrev rmX7_now : Room := { frames := 3, cells := 0, slots := 0, locals := 67 }
theorem hd_X7_now : Hd yX7_now RX7 1 := by decide +kernel
def gX7_now (x1 : Int32) (M : Mem) : Option (Int32) := if x1 = 0 then (some (M 9 4)) else (if x1 = 1 then (some (M 9 5)) else (if x1 = 2 then ((gX7_layersOfAll M).bind fun u63 => some (u63)) else (if x1 = 3 then ((gX7_sweptIntoAll M).bind fun u66 => some (u66)) else (some ((-1))))))
set_option maxHeartbeats 4000000 in
set_option maxRecDepth 100000 in
theorem ctX7_now (l : Launch) (E : EE) (b : Nat) {TC : Int64} {MM : Mem} {TM : Int64} {x1 : Int32} {M : Mem} {res : Int32}  (hf : gX7_now x1 M = some res) : MetI l E b yX7_now (.code yX7_now cX7_now 3 (some .int)) rmX7_now [.ref (b + 0), .int x1] M TC MM TM res M TC MM TM := by
  refine Met.ofW (cc := cX7_now) (maxL := 3) (ret := (some .int)) (by decide) rfl ?_
  intro p e s m args below meth c s₁ B hml hv
  obtain ⟨rfl, hP, hK⟩ := hv
  have hx := B.exec
  have hb := B.bytes
  have X : CX E p s m _ c cX7_now 3 RX7 := ⟨hx, hb, hml, findClass_of_methodNamed B.named, fun w h => atoms_spec (ws := _ :: wt) B.pre w (List.mem_cons_of_mem _ h), hK⟩
  have hr := B.returns
  have hlk := B.notSynchronized
  have hw : WW E b M TC MM TM s s.heap [] := ⟨hP, va_S.rf⟩
  have hl := lv_entry ([.ref (b + 0), .int x1]) (n := 3) (Nat.le_of_ble_eq_true rfl)
  rw [lg_entry_eq]
  generalize (lg_sl ([.ref (b + 0), .int x1]) ++ List.replicate (3 - (lg_sl ([.ref (b + 0), .int x1])).length) Slot.unset).toArray = ls at hl ⊢
  have hl : lv_has ls 3 [(0, .ref (b + 0)), (1, .int x1)] := hl
  obtain ⟨H, hH⟩ : ∃ H, H = s.heap := ⟨_, rfl⟩
  obtain ⟨locs, hL⟩ : ∃ L : List Loc, L = [] := ⟨_, rfl⟩
  rw [← hH, ← hL] at hw
  suffices hg : W p l e rmX7_now s m _ below meth c H locs 0 0 (MQ below (va_Qi (fun x (_ : Unit) => x = res) (fun _ t => PW E b M TC MM TM t) (AA b)) _ s 0 0 (AA b)) (F0 m 0 ls []) by rw [hH, hL] at hg; exact hg
  clear hH hL
  rw [gX7_now] at hf
  refine lv_aload_n hx hb dX7_now_0 rfl (lv_at hl 0 rfl) ?_
  refine gt_X7 X hw 2 kk_0 rfl (by decide) mw_280 rfl dX7_now_1 ?_
  refine gt_X5 X hw 0 kk_8 rfl (by decide) mw_205 rfl dX7_now_4 ?_
  refine lv_astore_n (lv' := [(2, .ref (b + 9)), (0, .ref (b + 0)), (1, .int x1)]) hx hb dX7_now_7 rfl hl (by decide) rfl (fun ls hl => ?_)
  refine lv_iload_n hx hb dX7_now_8 rfl (lv_at hl 2 rfl) ?_
  by_cases c60 : x1 = 0
  · replace hf := (if_pos c60).symm.trans hf
    refine lv_tableIn (tgt := 40) (off := 31) hx hb dX7_now_9 (by rw [c60]; decide) (by rw [c60]; decide) (by rw [c60]; rfl) (by decide) ?_
    refine lv_aload_n hx hb dX7_now_40 rfl (lv_at hl 0 rfl) ?_
    refine gt_X1 X hw 4 kk_9 rfl (by decide) mw_187 rfl dX7_now_41 ?_
    replace hf := Option.some.inj hf
    subst hf
    exact eI X hw hr hlk dX7_now_44
  · replace hf := (if_neg c60).symm.trans hf
    by_cases c61 : x1 = 1
    · replace hf := (if_pos c61).symm.trans hf
      refine lv_tableIn (tgt := 45) (off := 36) hx hb dX7_now_9 (by rw [c61]; decide) (by rw [c61]; decide) (by rw [c61]; rfl) (by decide) ?_
      refine lv_aload_n hx hb dX7_now_45 rfl (lv_at hl 0 rfl) ?_
      refine gt_X1 X hw 5 kk_9 rfl (by decide) mw_189 rfl dX7_now_46 ?_
      replace hf := Option.some.inj hf
      subst hf
      exact eI X hw hr hlk dX7_now_49
    · replace hf := (if_neg c61).symm.trans hf
      by_cases c62 : x1 = 2
      · replace hf := (if_pos c62).symm.trans hf
        refine lv_tableIn (tgt := 50) (off := 41) hx hb dX7_now_9 (by rw [c62]; decide) (by rw [c62]; decide) (by rw [c62]; rfl) (by decide) ?_
        refine lv_aload_n hx hb dX7_now_50 rfl (lv_at hl 1 rfl) ?_
        obtain ⟨u63, q64, hf⟩ := ob hf
        refine cVi (As := []) X hw (ctX7_layersOfAll l E b  q64) ⟨mw_514, mw_516, mw_12, mw_52, mw_517⟩ hd_X7_layersOfAll ⟨Nat.le_of_ble_eq_true rfl, Nat.le_of_ble_eq_true rfl, rfl, rfl⟩ (kdk kk_0 (by decide)) (ce_X7 E _ _ _ _ kk_0) (show vwCl[7]? = some (RX7, TX7, 11) from rfl) rfl hl.1 rfl (Nat.le_of_ble_eq_true rfl) dX7_now_51 (fun H locs hw => ?_)
        replace hf := Option.some.inj hf
        subst hf
        exact eI X hw hr hlk dX7_now_54
      · replace hf := (if_neg c62).symm.trans hf
        by_cases c65 : x1 = 3
        · replace hf := (if_pos c65).symm.trans hf
          refine lv_tableIn (tgt := 55) (off := 46) hx hb dX7_now_9 (by rw [c65]; decide) (by rw [c65]; decide) (by rw [c65]; rfl) (by decide) ?_
          refine lv_aload_n hx hb dX7_now_55 rfl (lv_at hl 1 rfl) ?_
          obtain ⟨u66, q67, hf⟩ := ob hf
          refine cVi (As := []) X hw (ctX7_sweptIntoAll l E b  q67) ⟨mw_518, mw_520, mw_13, mw_52, mw_521⟩ hd_X7_sweptIntoAll ⟨Nat.le_of_ble_eq_true rfl, Nat.le_of_ble_eq_true rfl, rfl, rfl⟩ (kdk kk_0 (by decide)) (ce_X7 E _ _ _ _ kk_0) (show vwCl[7]? = some (RX7, TX7, 11) from rfl) rfl hl.1 rfl (Nat.le_of_ble_eq_true rfl) dX7_now_56 (fun H locs hw => ?_)
          replace hf := Option.some.inj hf
          subst hf
          exact eI X hw hr hlk dX7_now_59
        · replace hf := (if_neg c65).symm.trans hf
          have nc60 : x1.toInt ≠ 0 := fun q => c60 (Int32.toInt_inj.mp (q.trans (by decide)))
          have nc61 : x1.toInt ≠ 1 := fun q => c61 (Int32.toInt_inj.mp (q.trans (by decide)))
          have nc62 : x1.toInt ≠ 2 := fun q => c62 (Int32.toInt_inj.mp (q.trans (by decide)))
          have nc65 : x1.toInt ≠ 3 := fun q => c65 (Int32.toInt_inj.mp (q.trans (by decide)))
          refine lv_tableOut (tgt := 60) hx hb dX7_now_9 (by omega) (by decide) ?_
          refine lv_iconst (v := (-1)) hx hb dX7_now_60 (by decide) ?_
          replace hf := Option.some.inj hf
          subst hf
          exact eI X hw hr hlk dX7_now_61

abbrev rmX7_blushes : Room := { frames := 1, cells := 0, slots := 0, locals := 22 }
theorem hd_X7_blushes : Hd yX7_blushes RX7 1 := by decide +kernel
def gX7_blushes_44  (k4 : Int32 → Int32 → Int32 → Mem → Option (Int32)) (x1 : Int32) (x2 : Int32) (x3 : Int32) (M : Mem) : Option (Int32) := (some (x3 + 1)).bind fun z74 => k4 x1 x2 z74 M
def gX7_blushes_4   : Nat → Int32 → Int32 → Int32 → Mem → Option (Int32)
  | 0, _, _, _, _ => none
  | n + 1, x1, x2, x3, M => if (M 191 3) ≤ x3 then (some (x2)) else ((ldA 5 (M 192) x3).bind fun v69 => (gX1_sweptOf 9 x1 v69 M).bind fun u71 => if u71 ≤ 0 then (gX7_blushes_44 (gX7_blushes_4 n) x1 x2 x3 M) else ((some (x2 ||| (1 <<< (x3 &&& 31)))).bind fun z75 => gX7_blushes_44 (gX7_blushes_4 n) x1 z75 x3 M))
def gX7_blushes (x1 : Int32) (M : Mem) : Option (Int32) := gX7_blushes_4 FU x1 0 0 M
set_option maxHeartbeats 4000000 in
set_option maxRecDepth 100000 in
theorem tX7_blushes_44 {p : Program} {l : Launch} {e : Env} {s : State} {m : MethodId} {args : Array Value} {below : List Frame} {meth : Method} {c : Code} {E : EE} {b : Nat} {TC : Int64} {MM : Mem} {TM : Int64} {res : Int32} (X : CX E p s m args c cX7_blushes 4 RX7) (hr : meth.sig.returnType = (some .int)) (hlk : meth.locks = false)   {k4 : Int32 → Int32 → Int32 → Mem → Option (Int32)} (hk4 : ∀ (x1 : Int32) (x2 : Int32) (x3 : Int32) (M : Mem), k4 x1 x2 x3 M = some res → ∀ (H : Heap) (locs : List Loc) (ls : Array Slot), WW E b M TC MM TM s H locs → lv_has ls 4 [(0, .ref (b + 0)), (1, .int x1), (2, .int x2), (3, .int x3)] → W p l e rmX7_blushes s m args below meth c H locs 0 0 (MQ below (va_Qi (fun x (_ : Unit) => x = res) (fun _ t => PW E b M TC MM TM t) (AA b)) args s 0 0 (AA b)) (F0 m 4 ls [])) : ∀ (x1 : Int32) (x2 : Int32) (x3 : Int32) (M : Mem), gX7_blushes_44 k4 x1 x2 x3 M = some res → ∀ (H : Heap) (locs : List Loc) (ls : Array Slot), WW E b M TC MM TM s H locs → lv_has ls 4 [(0, .ref (b + 0)), (1, .int x1), (2, .int x2), (3, .int x3)] → W p l e rmX7_blushes s m args below meth c H locs 0 0 (MQ below (va_Qi (fun x (_ : Unit) => x = res) (fun _ t => PW E b M TC MM TM t) (AA b)) args s 0 0 (AA b)) (F0 m 44 ls []) := by
  have hx := X.1
  have hb := X.2.1
  intro x1 x2 x3 M hf H locs ls hw hl
  rw [gX7_blushes_44] at hf
  obtain ⟨z74, ez74⟩ : ∃ y : Int32, y = x3 + 1 := ⟨_, rfl⟩
  replace hf := nmb hf ez74
  refine lv_iinc (v := z74) (lv' := [(3, .int z74), (0, .ref (b + 0)), (1, .int x1), (2, .int x2)]) hx hb dX7_blushes_44 hl (k := 3) rfl (by rw [ez74]; rfl) (by decide) rfl (fun ls hl => ?_)
  refine lv_goto (tgt := 4) hx hb dX7_blushes_47 (by decide) ?_
  exact hk4 x1 x2 z74 M hf H locs ls hw (lv_sub hl [1, 2, 3, 0] rfl)
set_option maxHeartbeats 4000000 in
set_option maxRecDepth 100000 in
theorem tX7_blushes_4 {p : Program} {l : Launch} {e : Env} {s : State} {m : MethodId} {args : Array Value} {below : List Frame} {meth : Method} {c : Code} {E : EE} {b : Nat} {TC : Int64} {MM : Mem} {TM : Int64} {res : Int32} (X : CX E p s m args c cX7_blushes 4 RX7) (hr : meth.sig.returnType = (some .int)) (hlk : meth.locks = false)    : ∀ (n : Nat) (x1 : Int32) (x2 : Int32) (x3 : Int32) (M : Mem), gX7_blushes_4 n x1 x2 x3 M = some res → ∀ (H : Heap) (locs : List Loc) (ls : Array Slot), WW E b M TC MM TM s H locs → lv_has ls 4 [(0, .ref (b + 0)), (1, .int x1), (2, .int x2), (3, .int x3)] → W p l e rmX7_blushes s m args below meth c H locs 0 0 (MQ below (va_Qi (fun x (_ : Unit) => x = res) (fun _ t => PW E b M TC MM TM t) (AA b)) args s 0 0 (AA b)) (F0 m 4 ls []) := by
  have hx := X.1
  have hb := X.2.1
  intro n
  induction n with
  | zero =>
    intro x1 x2 x3 M hf
    cases (show (none : Option (Int32)) = some res from hf)
  | succ n ih =>
    intro x1 x2 x3 M hf H locs ls hw hl
    rw [gX7_blushes_4] at hf
    refine lv_iload_n hx hb dX7_blushes_4 rfl (lv_at hl 3 rfl) ?_
    refine lv_aload_n hx hb dX7_blushes_5 rfl (lv_at hl 0 rfl) ?_
    refine gt_X7 X hw 7 kk_0 rfl (by decide) mw_285 rfl dX7_blushes_6 ?_
    refine gt_X6 X hw 3 kk_191 rfl (by decide) mw_114 rfl dX7_blushes_9 ?_
    refine lv_icmp_ge (tgt := 50) hx hb dX7_blushes_12 (by decide) (fun c68 => ?_) (fun c68 => ?_)
    · replace hf := (if_pos c68).symm.trans hf
      refine lv_iload_n hx hb dX7_blushes_50 rfl (lv_at hl 2 rfl) ?_
      replace hf := Option.some.inj hf
      subst hf
      exact eI X hw hr hlk dX7_blushes_51
    · replace hf := (if_neg c68).symm.trans hf
      refine lv_aload_n hx hb dX7_blushes_15 rfl (lv_at hl 0 rfl) ?_
      refine gt_X7 X hw 2 kk_0 rfl (by decide) mw_280 rfl dX7_blushes_16 ?_
      refine gt_X5 X hw 0 kk_8 rfl (by decide) mw_205 rfl dX7_blushes_19 ?_
      refine lv_iload_n hx hb dX7_blushes_22 rfl (lv_at hl 1 rfl) ?_
      refine lv_aload_n hx hb dX7_blushes_23 rfl (lv_at hl 0 rfl) ?_
      refine gt_X7 X hw 7 kk_0 rfl (by decide) mw_285 rfl dX7_blushes_24 ?_
      refine gt_X6 X hw 0 kk_191 rfl (by decide) mw_104 rfl dX7_blushes_27 ?_
      refine lv_iload_n hx hb dX7_blushes_30 rfl (lv_at hl 3 rfl) ?_
      obtain ⟨v69, q70, hf⟩ := ob hf
      refine aldC X hw kdv_192 q70 dX7_blushes_31 ?_
      obtain ⟨u71, q72, hf⟩ := ob hf
      refine cVi (As := [.int x1, .int v69]) X hw (ctX1_sweptOf l E b kk_9 q72) ⟨mw_435, mw_436, mw_437, mw_57, mw_438⟩ hd_X1_sweptOf ⟨Nat.le_of_ble_eq_true rfl, Nat.le_of_ble_eq_true rfl, rfl, rfl⟩ (kdk kk_9 (by decide)) (ce_X1 E _ _ _ _ kk_9) (show vwCl[1]? = some (RX1, TX1, 6) from rfl) rfl hl.1 rfl (Nat.le_of_ble_eq_true rfl) dX7_blushes_32 (fun H locs hw => ?_)
      refine lv_if_le (tgt := 44) hx hb dX7_blushes_35 (by decide) (fun c73 => ?_) (fun c73 => ?_)
      · replace hf := (if_pos c73).symm.trans hf
        exact tX7_blushes_44 X hr hlk ih x1 x2 x3 M hf H locs ls hw (lv_sub hl [0, 1, 2, 3] rfl)
      · replace hf := (if_neg c73).symm.trans hf
        refine lv_iload_n hx hb dX7_blushes_38 rfl (lv_at hl 2 rfl) ?_
        refine lv_iconst (v := 1) hx hb dX7_blushes_39 (by decide) ?_
        refine lv_iload_n hx hb dX7_blushes_40 rfl (lv_at hl 3 rfl) ?_
        refine lv_ishl hx hb dX7_blushes_41 ?_
        refine lv_ior hx hb dX7_blushes_42 ?_
        refine lv_topi (fun z75 ez75 => ?_)
        replace hf := nmb hf ez75
        refine lv_istore_n (lv' := [(2, .int z75), (0, .ref (b + 0)), (1, .int x1), (3, .int x3)]) hx hb dX7_blushes_43 rfl hl (by decide) rfl (fun ls hl => ?_)
        exact tX7_blushes_44 X hr hlk ih x1 z75 x3 M hf H locs ls hw (lv_sub hl [1, 2, 0, 3] rfl)
set_option maxHeartbeats 4000000 in
set_option maxRecDepth 100000 in
theorem ctX7_blushes (l : Launch) (E : EE) (b : Nat) {TC : Int64} {MM : Mem} {TM : Int64} {x1 : Int32} {M : Mem} {res : Int32}  (hf : gX7_blushes x1 M = some res) : MetI l E b yX7_blushes (.code yX7_blushes cX7_blushes 4 (some .int)) rmX7_blushes [.ref (b + 0), .int x1] M TC MM TM res M TC MM TM := by
  refine Met.ofW (cc := cX7_blushes) (maxL := 4) (ret := (some .int)) (by decide) rfl ?_
  intro p e s m args below meth c s₁ B hml hv
  obtain ⟨rfl, hP, hK⟩ := hv
  have hx := B.exec
  have hb := B.bytes
  have X : CX E p s m _ c cX7_blushes 4 RX7 := ⟨hx, hb, hml, findClass_of_methodNamed B.named, fun w h => atoms_spec (ws := _ :: wt) B.pre w (List.mem_cons_of_mem _ h), hK⟩
  have hr := B.returns
  have hlk := B.notSynchronized
  have hw : WW E b M TC MM TM s s.heap [] := ⟨hP, va_S.rf⟩
  have hl := lv_entry ([.ref (b + 0), .int x1]) (n := 4) (Nat.le_of_ble_eq_true rfl)
  rw [lg_entry_eq]
  generalize (lg_sl ([.ref (b + 0), .int x1]) ++ List.replicate (4 - (lg_sl ([.ref (b + 0), .int x1])).length) Slot.unset).toArray = ls at hl ⊢
  have hl : lv_has ls 4 [(0, .ref (b + 0)), (1, .int x1)] := hl
  obtain ⟨H, hH⟩ : ∃ H, H = s.heap := ⟨_, rfl⟩
  obtain ⟨locs, hL⟩ : ∃ L : List Loc, L = [] := ⟨_, rfl⟩
  rw [← hH, ← hL] at hw
  suffices hg : W p l e rmX7_blushes s m _ below meth c H locs 0 0 (MQ below (va_Qi (fun x (_ : Unit) => x = res) (fun _ t => PW E b M TC MM TM t) (AA b)) _ s 0 0 (AA b)) (F0 m 0 ls []) by rw [hH, hL] at hg; exact hg
  clear hH hL
  rw [gX7_blushes] at hf
  refine lv_iconst (v := 0) hx hb dX7_blushes_0 (by decide) ?_
  refine lv_istore_n (lv' := [(2, .int 0), (0, .ref (b + 0)), (1, .int x1)]) hx hb dX7_blushes_1 rfl hl (by decide) rfl (fun ls hl => ?_)
  refine lv_iconst (v := 0) hx hb dX7_blushes_2 (by decide) ?_
  refine lv_istore_n (lv' := [(3, .int 0), (2, .int 0), (0, .ref (b + 0)), (1, .int x1)]) hx hb dX7_blushes_3 rfl hl (by decide) rfl (fun ls hl => ?_)
  exact tX7_blushes_4 X hr hlk FU x1 0 0 M hf H locs ls hw (lv_sub hl [2, 3, 1, 0] rfl)

abbrev rmX7_mostOf : Room := { frames := 0, cells := 0, slots := 0, locals := 0 }
theorem hd_X7_mostOf : Hd yX7_mostOf RX7 1 := by decide +kernel
def gX7_mostOf_26 (o0 : Nat) (n0 : Nat) (k7 : Int32 → Int32 → Int32 → Mem → Option (Int32)) (x1 : Int32) (x2 : Int32) (x3 : Int32) (M : Mem) : Option (Int32) := (some (x3 + 1)).bind fun z80 => k7 x1 x2 z80 M
def gX7_mostOf_7 (o0 : Nat) (n0 : Nat)  : Nat → Int32 → Int32 → Int32 → Mem → Option (Int32)
  | 0, _, _, _, _ => none
  | n + 1, x1, x2, x3, M => if (Int32.ofNat n0) ≤ x3 then (some (x1)) else ((ldA n0 (M o0) x3).bind fun v77 => if v77 ≤ x2 then (gX7_mostOf_26 o0 n0 (gX7_mostOf_7 o0 n0 n) x1 x2 x3 M) else ((ldA n0 (M o0) x3).bind fun v81 => gX7_mostOf_26 o0 n0 (gX7_mostOf_7 o0 n0 n) x3 v81 x3 M))
def gX7_mostOf (o0 : Nat) (n0 : Nat) (M : Mem) : Option (Int32) := gX7_mostOf_7 o0 n0 FU ((-9)) 0 0 M
set_option maxHeartbeats 4000000 in
set_option maxRecDepth 100000 in
theorem tX7_mostOf_26 {p : Program} {l : Launch} {e : Env} {s : State} {m : MethodId} {args : Array Value} {below : List Frame} {meth : Method} {c : Code} {E : EE} {b : Nat} {TC : Int64} {MM : Mem} {TM : Int64} {res : Int32} (X : CX E p s m args c cX7_mostOf 4 RX7) (hr : meth.sig.returnType = (some .int)) (hlk : meth.locks = false) {o0 : Nat} {n0 : Nat} (h0 : kd o0 = (1, n0)) {k7 : Int32 → Int32 → Int32 → Mem → Option (Int32)} (hk7 : ∀ (x1 : Int32) (x2 : Int32) (x3 : Int32) (M : Mem), k7 x1 x2 x3 M = some res → ∀ (H : Heap) (locs : List Loc) (ls : Array Slot), WW E b M TC MM TM s H locs → lv_has ls 4 [(0, .ref (b + o0)), (1, .int x1), (2, .int x2), (3, .int x3)] → W p l e rmX7_mostOf s m args below meth c H locs 0 0 (MQ below (va_Qi (fun x (_ : Unit) => x = res) (fun _ t => PW E b M TC MM TM t) (AA b)) args s 0 0 (AA b)) (F0 m 7 ls [])) : ∀ (x1 : Int32) (x2 : Int32) (x3 : Int32) (M : Mem), gX7_mostOf_26 o0 n0 k7 x1 x2 x3 M = some res → ∀ (H : Heap) (locs : List Loc) (ls : Array Slot), WW E b M TC MM TM s H locs → lv_has ls 4 [(0, .ref (b + o0)), (1, .int x1), (2, .int x2), (3, .int x3)] → W p l e rmX7_mostOf s m args below meth c H locs 0 0 (MQ below (va_Qi (fun x (_ : Unit) => x = res) (fun _ t => PW E b M TC MM TM t) (AA b)) args s 0 0 (AA b)) (F0 m 26 ls []) := by
  have hx := X.1
  have hb := X.2.1
  intro x1 x2 x3 M hf H locs ls hw hl
  rw [gX7_mostOf_26] at hf
  obtain ⟨z80, ez80⟩ : ∃ y : Int32, y = x3 + 1 := ⟨_, rfl⟩
  replace hf := nmb hf ez80
  refine lv_iinc (v := z80) (lv' := [(3, .int z80), (0, .ref (b + o0)), (1, .int x1), (2, .int x2)]) hx hb dX7_mostOf_26 hl (k := 3) rfl (by rw [ez80]; rfl) (by decide) rfl (fun ls hl => ?_)
  refine lv_goto (tgt := 7) hx hb dX7_mostOf_29 (by decide) ?_
  exact hk7 x1 x2 z80 M hf H locs ls hw (lv_sub hl [1, 2, 3, 0] rfl)
set_option maxHeartbeats 4000000 in
set_option maxRecDepth 100000 in
theorem tX7_mostOf_7 {p : Program} {l : Launch} {e : Env} {s : State} {m : MethodId} {args : Array Value} {below : List Frame} {meth : Method} {c : Code} {E : EE} {b : Nat} {TC : Int64} {MM : Mem} {TM : Int64} {res : Int32} (X : CX E p s m args c cX7_mostOf 4 RX7) (hr : meth.sig.returnType = (some .int)) (hlk : meth.locks = false) {o0 : Nat} {n0 : Nat} (h0 : kd o0 = (1, n0))  : ∀ (n : Nat) (x1 : Int32) (x2 : Int32) (x3 : Int32) (M : Mem), gX7_mostOf_7 o0 n0 n x1 x2 x3 M = some res → ∀ (H : Heap) (locs : List Loc) (ls : Array Slot), WW E b M TC MM TM s H locs → lv_has ls 4 [(0, .ref (b + o0)), (1, .int x1), (2, .int x2), (3, .int x3)] → W p l e rmX7_mostOf s m args below meth c H locs 0 0 (MQ below (va_Qi (fun x (_ : Unit) => x = res) (fun _ t => PW E b M TC MM TM t) (AA b)) args s 0 0 (AA b)) (F0 m 7 ls []) := by
  have hx := X.1
  have hb := X.2.1
  intro n
  induction n with
  | zero =>
    intro x1 x2 x3 M hf
    cases (show (none : Option (Int32)) = some res from hf)
  | succ n ih =>
    intro x1 x2 x3 M hf H locs ls hw hl
    rw [gX7_mostOf_7] at hf
    refine lv_iload_n hx hb dX7_mostOf_7 rfl (lv_at hl 3 rfl) ?_
    refine lv_aload_n hx hb dX7_mostOf_8 rfl (lv_at hl 0 rfl) ?_
    refine alenC X hw h0 rfl dX7_mostOf_9 ?_
    refine lv_icmp_ge (tgt := 32) hx hb dX7_mostOf_10 (by decide) (fun c76 => ?_) (fun c76 => ?_)
    · replace hf := (if_pos c76).symm.trans hf
      refine lv_iload_n hx hb dX7_mostOf_32 rfl (lv_at hl 1 rfl) ?_
      replace hf := Option.some.inj hf
      subst hf
      exact eI X hw hr hlk dX7_mostOf_33
    · replace hf := (if_neg c76).symm.trans hf
      refine lv_aload_n hx hb dX7_mostOf_13 rfl (lv_at hl 0 rfl) ?_
      refine lv_iload_n hx hb dX7_mostOf_14 rfl (lv_at hl 3 rfl) ?_
      obtain ⟨v77, q78, hf⟩ := ob hf
      refine aldC X hw h0 q78 dX7_mostOf_15 ?_
      refine lv_iload_n hx hb dX7_mostOf_16 rfl (lv_at hl 2 rfl) ?_
      refine lv_icmp_le (tgt := 26) hx hb dX7_mostOf_17 (by decide) (fun c79 => ?_) (fun c79 => ?_)
      · replace hf := (if_pos c79).symm.trans hf
        exact tX7_mostOf_26 X hr hlk h0 ih x1 x2 x3 M hf H locs ls hw (lv_sub hl [0, 1, 2, 3] rfl)
      · replace hf := (if_neg c79).symm.trans hf
        refine lv_aload_n hx hb dX7_mostOf_20 rfl (lv_at hl 0 rfl) ?_
        refine lv_iload_n hx hb dX7_mostOf_21 rfl (lv_at hl 3 rfl) ?_
        obtain ⟨v81, q82, hf⟩ := ob hf
        refine aldC X hw h0 q82 dX7_mostOf_22 ?_
        refine lv_istore_n (lv' := [(2, .int v81), (0, .ref (b + o0)), (1, .int x1), (3, .int x3)]) hx hb dX7_mostOf_23 rfl hl (by decide) rfl (fun ls hl => ?_)
        refine lv_iload_n hx hb dX7_mostOf_24 rfl (lv_at hl 3 rfl) ?_
        refine lv_istore_n (lv' := [(1, .int x3), (2, .int v81), (0, .ref (b + o0)), (3, .int x3)]) hx hb dX7_mostOf_25 rfl hl (by decide) rfl (fun ls hl => ?_)
        exact tX7_mostOf_26 X hr hlk h0 ih x3 v81 x3 M hf H locs ls hw (lv_sub hl [2, 0, 1, 3] rfl)
set_option maxHeartbeats 4000000 in
set_option maxRecDepth 100000 in
theorem ctX7_mostOf (l : Launch) (E : EE) (b : Nat) {TC : Int64} {MM : Mem} {TM : Int64} {o0 : Nat} {n0 : Nat} {M : Mem} {res : Int32} (h0 : kd o0 = (1, n0)) (hf : gX7_mostOf o0 n0 M = some res) : MetI l E b yX7_mostOf (.code yX7_mostOf cX7_mostOf 4 (some .int)) rmX7_mostOf [.ref (b + o0)] M TC MM TM res M TC MM TM := by
  refine Met.ofW (cc := cX7_mostOf) (maxL := 4) (ret := (some .int)) (by decide) rfl ?_
  intro p e s m args below meth c s₁ B hml hv
  obtain ⟨rfl, hP, hK⟩ := hv
  have hx := B.exec
  have hb := B.bytes
  have X : CX E p s m _ c cX7_mostOf 4 RX7 := ⟨hx, hb, hml, findClass_of_methodNamed B.named, fun w h => atoms_spec (ws := _ :: wt) B.pre w (List.mem_cons_of_mem _ h), hK⟩
  have hr := B.returns
  have hlk := B.notSynchronized
  have hw : WW E b M TC MM TM s s.heap [] := ⟨hP, va_S.rf⟩
  have hl := lv_entry ([.ref (b + o0)]) (n := 4) (Nat.le_of_ble_eq_true rfl)
  rw [lg_entry_eq]
  generalize (lg_sl ([.ref (b + o0)]) ++ List.replicate (4 - (lg_sl ([.ref (b + o0)])).length) Slot.unset).toArray = ls at hl ⊢
  have hl : lv_has ls 4 [(0, .ref (b + o0))] := hl
  obtain ⟨H, hH⟩ : ∃ H, H = s.heap := ⟨_, rfl⟩
  obtain ⟨locs, hL⟩ : ∃ L : List Loc, L = [] := ⟨_, rfl⟩
  rw [← hH, ← hL] at hw
  suffices hg : W p l e rmX7_mostOf s m _ below meth c H locs 0 0 (MQ below (va_Qi (fun x (_ : Unit) => x = res) (fun _ t => PW E b M TC MM TM t) (AA b)) _ s 0 0 (AA b)) (F0 m 0 ls []) by rw [hH, hL] at hg; exact hg
  clear hH hL
  rw [gX7_mostOf] at hf
  refine lv_bipush (v := (-9)) hx hb dX7_mostOf_0 (by decide) ?_
  refine lv_istore_n (lv' := [(1, .int ((-9))), (0, .ref (b + o0))]) hx hb dX7_mostOf_2 rfl hl (by decide) rfl (fun ls hl => ?_)
  refine lv_iconst (v := 0) hx hb dX7_mostOf_3 (by decide) ?_
  refine lv_istore_n (lv' := [(2, .int 0), (1, .int ((-9))), (0, .ref (b + o0))]) hx hb dX7_mostOf_4 rfl hl (by decide) rfl (fun ls hl => ?_)
  refine lv_iconst (v := 0) hx hb dX7_mostOf_5 (by decide) ?_
  refine lv_istore_n (lv' := [(3, .int 0), (2, .int 0), (1, .int ((-9))), (0, .ref (b + o0))]) hx hb dX7_mostOf_6 rfl hl (by decide) rfl (fun ls hl => ?_)
  exact tX7_mostOf_7 X hr hlk h0 FU ((-9)) 0 0 M hf H locs ls hw (lv_sub hl [3, 2, 1, 0] rfl)

abbrev rmX7_mostIn : Room := { frames := 1, cells := 0, slots := 0, locals := 23 }
theorem hd_X7_mostIn : Hd yX7_mostIn RX7 1 := by decide +kernel
def gX7_mostIn_2   : Nat → Int32 → Int32 → Mem → Option (Int32 × Mem)
  | 0, _, _, _ => none
  | n + 1, x1, x2, M => if 10 ≤ x2 then ((gX7_mostOf 195 10 M).bind fun u84 => some (u84, M)) else ((gX1_sweptOf 9 x1 x2 M).bind fun u86 => (stA 10 M 195 x2 u86).bind fun M88 => (some (x2 + 1)).bind fun z90 => (gX7_mostIn_2 n) x1 z90 M88)
def gX7_mostIn (x1 : Int32) (M : Mem) : Option (Int32 × Mem) := gX7_mostIn_2 FU x1 0 M
set_option maxHeartbeats 4000000 in
set_option maxRecDepth 100000 in
theorem tX7_mostIn_2 {p : Program} {l : Launch} {e : Env} {s : State} {m : MethodId} {args : Array Value} {below : List Frame} {meth : Method} {c : Code} {E : EE} {b : Nat} {TC : Int64} {MM : Mem} {TM : Int64} {res : Int32 × Mem} (X : CX E p s m args c cX7_mostIn 3 RX7) (hr : meth.sig.returnType = (some .int)) (hlk : meth.locks = false)    : ∀ (n : Nat) (x1 : Int32) (x2 : Int32) (M : Mem), gX7_mostIn_2 n x1 x2 M = some res → ∀ (H : Heap) (locs : List Loc) (ls : Array Slot), WW E b M TC MM TM s H locs → lv_has ls 3 [(0, .ref (b + 0)), (1, .int x1), (2, .int x2)] → W p l e rmX7_mostIn s m args below meth c H locs 0 0 (MQ below (va_Qi (fun x (_ : Unit) => x = res.1) (fun _ t => PW E b res.2 TC MM TM t) (AA b)) args s 0 0 (AA b)) (F0 m 2 ls []) := by
  have hx := X.1
  have hb := X.2.1
  intro n
  induction n with
  | zero =>
    intro x1 x2 M hf
    cases (show (none : Option (Int32 × Mem)) = some res from hf)
  | succ n ih =>
    intro x1 x2 M hf H locs ls hw hl
    rw [gX7_mostIn_2] at hf
    refine lv_iload_n hx hb dX7_mostIn_2 rfl (lv_at hl 2 rfl) ?_
    refine lv_bipush (v := 10) hx hb dX7_mostIn_3 (by decide) ?_
    refine lv_icmp_ge (tgt := 32) hx hb dX7_mostIn_5 (by decide) (fun c83 => ?_) (fun c83 => ?_)
    · replace hf := (if_pos c83).symm.trans hf
      refine lv_aload_n hx hb dX7_mostIn_32 rfl (lv_at hl 0 rfl) ?_
      refine gt_X7 X hw 8 kk_0 rfl (by decide) mw_286 rfl dX7_mostIn_33 ?_
      obtain ⟨u84, q85, hf⟩ := ob hf
      refine cSi (As := [.ref (b + 195)]) X hw (ctX7_mostOf l E b kdv_195 q85) ⟨mw_530, mw_531, mw_52, mw_532⟩ hd_X7_mostOf ⟨Nat.le_of_ble_eq_true rfl, Nat.le_of_ble_eq_true rfl, rfl, rfl⟩ rfl hl.1 rfl (Nat.le_of_ble_eq_true rfl) dX7_mostIn_36 (fun H locs hw => ?_)
      replace hf := Option.some.inj hf
      subst hf
      exact eI X hw hr hlk dX7_mostIn_39
    · replace hf := (if_neg c83).symm.trans hf
      refine lv_aload_n hx hb dX7_mostIn_8 rfl (lv_at hl 0 rfl) ?_
      refine gt_X7 X hw 8 kk_0 rfl (by decide) mw_286 rfl dX7_mostIn_9 ?_
      refine lv_iload_n hx hb dX7_mostIn_12 rfl (lv_at hl 2 rfl) ?_
      refine lv_aload_n hx hb dX7_mostIn_13 rfl (lv_at hl 0 rfl) ?_
      refine gt_X7 X hw 2 kk_0 rfl (by decide) mw_280 rfl dX7_mostIn_14 ?_
      refine gt_X5 X hw 0 kk_8 rfl (by decide) mw_205 rfl dX7_mostIn_17 ?_
      refine lv_iload_n hx hb dX7_mostIn_20 rfl (lv_at hl 1 rfl) ?_
      refine lv_iload_n hx hb dX7_mostIn_21 rfl (lv_at hl 2 rfl) ?_
      obtain ⟨u86, q87, hf⟩ := ob hf
      refine cVi (As := [.int x1, .int x2]) X hw (ctX1_sweptOf l E b kk_9 q87) ⟨mw_435, mw_436, mw_437, mw_57, mw_438⟩ hd_X1_sweptOf ⟨Nat.le_of_ble_eq_true rfl, Nat.le_of_ble_eq_true rfl, rfl, rfl⟩ (kdk kk_9 (by decide)) (ce_X1 E _ _ _ _ kk_9) (show vwCl[1]? = some (RX1, TX1, 6) from rfl) rfl hl.1 rfl (Nat.le_of_ble_eq_true rfl) dX7_mostIn_22 (fun H locs hw => ?_)
      obtain ⟨M88, q89, hf⟩ := ob hf
      refine astC X hw kdv_195 q89 dX7_mostIn_25 (fun H locs hw => ?_)
      obtain ⟨z90, ez90⟩ : ∃ y : Int32, y = x2 + 1 := ⟨_, rfl⟩
      replace hf := nmb hf ez90
      refine lv_iinc (v := z90) (lv' := [(2, .int z90), (0, .ref (b + 0)), (1, .int x1)]) hx hb dX7_mostIn_26 hl (k := 2) rfl (by rw [ez90]; rfl) (by decide) rfl (fun ls hl => ?_)
      refine lv_goto (tgt := 2) hx hb dX7_mostIn_29 (by decide) ?_
      exact ih x1 z90 M88 hf H locs ls hw (lv_sub hl [1, 2, 0] rfl)
set_option maxHeartbeats 4000000 in
set_option maxRecDepth 100000 in
theorem ctX7_mostIn (l : Launch) (E : EE) (b : Nat) {TC : Int64} {MM : Mem} {TM : Int64} {x1 : Int32} {M : Mem} {res : Int32 × Mem}  (hf : gX7_mostIn x1 M = some res) : MetI l E b yX7_mostIn (.code yX7_mostIn cX7_mostIn 3 (some .int)) rmX7_mostIn [.ref (b + 0), .int x1] M TC MM TM res.1 res.2 TC MM TM := by
  refine Met.ofW (cc := cX7_mostIn) (maxL := 3) (ret := (some .int)) (by decide) rfl ?_
  intro p e s m args below meth c s₁ B hml hv
  obtain ⟨rfl, hP, hK⟩ := hv
  have hx := B.exec
  have hb := B.bytes
  have X : CX E p s m _ c cX7_mostIn 3 RX7 := ⟨hx, hb, hml, findClass_of_methodNamed B.named, fun w h => atoms_spec (ws := _ :: wt) B.pre w (List.mem_cons_of_mem _ h), hK⟩
  have hr := B.returns
  have hlk := B.notSynchronized
  have hw : WW E b M TC MM TM s s.heap [] := ⟨hP, va_S.rf⟩
  have hl := lv_entry ([.ref (b + 0), .int x1]) (n := 3) (Nat.le_of_ble_eq_true rfl)
  rw [lg_entry_eq]
  generalize (lg_sl ([.ref (b + 0), .int x1]) ++ List.replicate (3 - (lg_sl ([.ref (b + 0), .int x1])).length) Slot.unset).toArray = ls at hl ⊢
  have hl : lv_has ls 3 [(0, .ref (b + 0)), (1, .int x1)] := hl
  obtain ⟨H, hH⟩ : ∃ H, H = s.heap := ⟨_, rfl⟩
  obtain ⟨locs, hL⟩ : ∃ L : List Loc, L = [] := ⟨_, rfl⟩
  rw [← hH, ← hL] at hw
  suffices hg : W p l e rmX7_mostIn s m _ below meth c H locs 0 0 (MQ below (va_Qi (fun x (_ : Unit) => x = res.1) (fun _ t => PW E b res.2 TC MM TM t) (AA b)) _ s 0 0 (AA b)) (F0 m 0 ls []) by rw [hH, hL] at hg; exact hg
  clear hH hL
  rw [gX7_mostIn] at hf
  refine lv_iconst (v := 0) hx hb dX7_mostIn_0 (by decide) ?_
  refine lv_istore_n (lv' := [(2, .int 0), (0, .ref (b + 0)), (1, .int x1)]) hx hb dX7_mostIn_1 rfl hl (by decide) rfl (fun ls hl => ?_)
  exact tX7_mostIn_2 X hr hlk FU x1 0 M hf H locs ls hw (lv_sub hl [1, 2, 0] rfl)

abbrev rmX7_reads : Room := { frames := 2, cells := 0, slots := 0, locals := 45 }
theorem hd_X7_reads : Hd yX7_reads RX7 2 := by decide +kernel
def gX7_reads (x1 : Int32) (x2 : Int32) (M : Mem) : Option (Int32 × Mem) := (gX7_isJar x1).bind fun u91 => if u91 = 0 then (some ((-1), M)) else (if x2 = 0 then ((gX7_mostIn x1 M).bind fun u95 => some (u95.1, u95.2)) else (if x2 = 1 then ((gX7_blushes x1 M).bind fun u98 => some (u98, M)) else (some ((-1), M))))
set_option maxHeartbeats 4000000 in
set_option maxRecDepth 100000 in
theorem ctX7_reads (l : Launch) (E : EE) (b : Nat) {TC : Int64} {MM : Mem} {TM : Int64} {x1 : Int32} {x2 : Int32} {M : Mem} {res : Int32 × Mem}  (hf : gX7_reads x1 x2 M = some res) : MetI l E b yX7_reads (.code yX7_reads cX7_reads 3 (some .int)) rmX7_reads [.ref (b + 0), .int x1, .int x2] M TC MM TM res.1 res.2 TC MM TM := by
  refine Met.ofW (cc := cX7_reads) (maxL := 3) (ret := (some .int)) (by decide) rfl ?_
  intro p e s m args below meth c s₁ B hml hv
  obtain ⟨rfl, hP, hK⟩ := hv
  have hx := B.exec
  have hb := B.bytes
  have X : CX E p s m _ c cX7_reads 3 RX7 := ⟨hx, hb, hml, findClass_of_methodNamed B.named, fun w h => atoms_spec (ws := _ :: wt) B.pre w (List.mem_cons_of_mem _ h), hK⟩
  have hr := B.returns
  have hlk := B.notSynchronized
  have hw : WW E b M TC MM TM s s.heap [] := ⟨hP, va_S.rf⟩
  have hl := lv_entry ([.ref (b + 0), .int x1, .int x2]) (n := 3) (Nat.le_of_ble_eq_true rfl)
  rw [lg_entry_eq]
  generalize (lg_sl ([.ref (b + 0), .int x1, .int x2]) ++ List.replicate (3 - (lg_sl ([.ref (b + 0), .int x1, .int x2])).length) Slot.unset).toArray = ls at hl ⊢
  have hl : lv_has ls 3 [(0, .ref (b + 0)), (1, .int x1), (2, .int x2)] := hl
  obtain ⟨H, hH⟩ : ∃ H, H = s.heap := ⟨_, rfl⟩
  obtain ⟨locs, hL⟩ : ∃ L : List Loc, L = [] := ⟨_, rfl⟩
  rw [← hH, ← hL] at hw
  suffices hg : W p l e rmX7_reads s m _ below meth c H locs 0 0 (MQ below (va_Qi (fun x (_ : Unit) => x = res.1) (fun _ t => PW E b res.2 TC MM TM t) (AA b)) _ s 0 0 (AA b)) (F0 m 0 ls []) by rw [hH, hL] at hg; exact hg
  clear hH hL
  rw [gX7_reads] at hf
  refine lv_iload_n hx hb dX7_reads_0 rfl (lv_at hl 1 rfl) ?_
  obtain ⟨u91, q92, hf⟩ := ob hf
  refine cSi (As := [.int x1]) X hw (ctX7_isJar l E b  q92) ⟨mw_429, mw_430, mw_52, mw_431⟩ hd_X7_isJar ⟨Nat.le_of_ble_eq_true rfl, Nat.le_of_ble_eq_true rfl, rfl, rfl⟩ rfl hl.1 rfl (Nat.le_of_ble_eq_true rfl) dX7_reads_1 (fun H locs hw => ?_)
  refine lv_if_ne (tgt := 9) hx hb dX7_reads_4 (by decide) (fun c93 => ?_) (fun c93 => ?_)
  · replace hf := (if_neg c93).symm.trans hf
    refine lv_iload_n hx hb dX7_reads_9 rfl (lv_at hl 2 rfl) ?_
    by_cases c94 : x2 = 0
    · replace hf := (if_pos c94).symm.trans hf
      refine lv_lookup (tgt := 36) (off := 26) hx hb dX7_reads_10 (by decide) (by rw [c94]; rfl) (by decide) ?_
      refine lv_aload_n hx hb dX7_reads_36 rfl (lv_at hl 0 rfl) ?_
      refine lv_iload_n hx hb dX7_reads_37 rfl (lv_at hl 1 rfl) ?_
      obtain ⟨u95, q96, hf⟩ := ob hf
      refine cVi (As := [.int x1]) X hw (ctX7_mostIn l E b  q96) ⟨mw_526, mw_528, mw_14, mw_52, mw_529⟩ hd_X7_mostIn ⟨Nat.le_of_ble_eq_true rfl, Nat.le_of_ble_eq_true rfl, rfl, rfl⟩ (kdk kk_0 (by decide)) (ce_X7 E _ _ _ _ kk_0) (show vwCl[7]? = some (RX7, TX7, 11) from rfl) rfl hl.1 rfl (Nat.le_of_ble_eq_true rfl) dX7_reads_38 (fun H locs hw => ?_)
      replace hf := Option.some.inj hf
      subst hf
      exact eI X hw hr hlk dX7_reads_41
    · replace hf := (if_neg c94).symm.trans hf
      by_cases c97 : x2 = 1
      · replace hf := (if_pos c97).symm.trans hf
        refine lv_lookup (tgt := 42) (off := 32) hx hb dX7_reads_10 (by decide) (by rw [c97]; rfl) (by decide) ?_
        refine lv_aload_n hx hb dX7_reads_42 rfl (lv_at hl 0 rfl) ?_
        refine lv_iload_n hx hb dX7_reads_43 rfl (lv_at hl 1 rfl) ?_
        obtain ⟨u98, q99, hf⟩ := ob hf
        refine cVi (As := [.int x1]) X hw (ctX7_blushes l E b  q99) ⟨mw_533, mw_535, mw_15, mw_52, mw_536⟩ hd_X7_blushes ⟨Nat.le_of_ble_eq_true rfl, Nat.le_of_ble_eq_true rfl, rfl, rfl⟩ (kdk kk_0 (by decide)) (ce_X7 E _ _ _ _ kk_0) (show vwCl[7]? = some (RX7, TX7, 11) from rfl) rfl hl.1 rfl (Nat.le_of_ble_eq_true rfl) dX7_reads_44 (fun H locs hw => ?_)
        replace hf := Option.some.inj hf
        subst hf
        exact eI X hw hr hlk dX7_reads_47
      · replace hf := (if_neg c97).symm.trans hf
        have nc94 : x2.toInt ≠ 0 := fun q => c94 (Int32.toInt_inj.mp (q.trans (by decide)))
        have nc97 : x2.toInt ≠ 1 := fun q => c97 (Int32.toInt_inj.mp (q.trans (by decide)))
        refine lv_lookup (tgt := 48) (off := 38) hx hb dX7_reads_10 (by decide) (by simp [Op.lookupswitch.offset, List.find?, beq_false_of_ne nc94, beq_false_of_ne (Ne.symm nc94), nc94, Ne.symm nc94, beq_false_of_ne nc97, beq_false_of_ne (Ne.symm nc97), nc97, Ne.symm nc97]) (by decide) ?_
        refine lv_iconst (v := (-1)) hx hb dX7_reads_48 (by decide) ?_
        replace hf := Option.some.inj hf
        subst hf
        exact eI X hw hr hlk dX7_reads_49
  · replace hf := (if_pos c93).symm.trans hf
    refine lv_iconst (v := (-1)) hx hb dX7_reads_7 (by decide) ?_
    replace hf := Option.some.inj hf
    subst hf
    exact eI X hw hr hlk dX7_reads_8

abbrev rmX7_plan : Room := { frames := 3, cells := 0, slots := 0, locals := 74 }
theorem hd_X7_plan : Hd yX7_plan RX7 4 := by decide +kernel
def gX7_plan_108   (y0 : Int32) (M : Mem) : Option (Int32 × Mem) := some (y0, M)
def gX7_plan (x1 : Int32) (x2 : Int32) (x3 : Int32) (x4 : Int32) (M : Mem) : Option (Int32 × Mem) := (gX7_isOne x1 M).bind fun u100 => if u100 = 0 then (some ((-1), M)) else ((gX7_within x2 1 20).bind fun u103 => if u103 = 0 then (some ((-1), M)) else ((gX7_within x3 1 12).bind fun u106 => if u106 = 0 then (some ((-1), M)) else ((gX7_within x4 0 1).bind fun u109 => if u109 = 0 then (some ((-1), M)) else ((gX3_grow 191 9 x1 x2 M).bind fun u112 => (ldA 5 (u112 192) x1).bind fun v114 => (gX3_firstFailingEvening v114 x2 x3 u112).bind fun u116 => if x4 = 1 then (some (u116.1, u116.2)) else (if u116.1 = ((-9)) then ((gX3_fewestCuts u116.2).bind fun u120 => gX7_plan_108 u120 u116.2) else (gX7_plan_108 ((-9)) u116.2))))))
set_option maxHeartbeats 4000000 in
set_option maxRecDepth 100000 in
theorem tX7_plan_108 {p : Program} {l : Launch} {e : Env} {s : State} {m : MethodId} {args : Array Value} {below : List Frame} {meth : Method} {c : Code} {E : EE} {b : Nat} {TC : Int64} {MM : Mem} {TM : Int64} {res : Int32 × Mem} (X : CX E p s m args c cX7_plan 6 RX7) (hr : meth.sig.returnType = (some .int)) (hlk : meth.locks = false)    : ∀ (y0 : Int32) (M : Mem), gX7_plan_108 y0 M = some res → ∀ (H : Heap) (locs : List Loc) (ls : Array Slot), WW E b M TC MM TM s H locs → lv_has ls 6 [] → W p l e rmX7_plan s m args below meth c H locs 0 0 (MQ below (va_Qi (fun x (_ : Unit) => x = res.1) (fun _ t => PW E b res.2 TC MM TM t) (AA b)) args s 0 0 (AA b)) (F0 m 108 ls [.int y0]) := by
  have hx := X.1
  have hb := X.2.1
  intro y0 M hf H locs ls hw hl
  rw [gX7_plan_108] at hf
  replace hf := Option.some.inj hf
  subst hf
  exact eI X hw hr hlk dX7_plan_108
set_option maxHeartbeats 4000000 in
set_option maxRecDepth 100000 in
theorem ctX7_plan (l : Launch) (E : EE) (b : Nat) {TC : Int64} {MM : Mem} {TM : Int64} {x1 : Int32} {x2 : Int32} {x3 : Int32} {x4 : Int32} {M : Mem} {res : Int32 × Mem}  (hf : gX7_plan x1 x2 x3 x4 M = some res) : MetI l E b yX7_plan (.code yX7_plan cX7_plan 6 (some .int)) rmX7_plan [.ref (b + 0), .int x1, .int x2, .int x3, .int x4] M TC MM TM res.1 res.2 TC MM TM := by
  refine Met.ofW (cc := cX7_plan) (maxL := 6) (ret := (some .int)) (by decide) rfl ?_
  intro p e s m args below meth c s₁ B hml hv
  obtain ⟨rfl, hP, hK⟩ := hv
  have hx := B.exec
  have hb := B.bytes
  have X : CX E p s m _ c cX7_plan 6 RX7 := ⟨hx, hb, hml, findClass_of_methodNamed B.named, fun w h => atoms_spec (ws := _ :: wt) B.pre w (List.mem_cons_of_mem _ h), hK⟩
  have hr := B.returns
  have hlk := B.notSynchronized
  have hw : WW E b M TC MM TM s s.heap [] := ⟨hP, va_S.rf⟩
  have hl := lv_entry ([.ref (b + 0), .int x1, .int x2, .int x3, .int x4]) (n := 6) (Nat.le_of_ble_eq_true rfl)
  rw [lg_entry_eq]
  generalize (lg_sl ([.ref (b + 0), .int x1, .int x2, .int x3, .int x4]) ++ List.replicate (6 - (lg_sl ([.ref (b + 0), .int x1, .int x2, .int x3, .int x4])).length) Slot.unset).toArray = ls at hl ⊢
  have hl : lv_has ls 6 [(0, .ref (b + 0)), (1, .int x1), (2, .int x2), (3, .int x3), (4, .int x4)] := hl
  obtain ⟨H, hH⟩ : ∃ H, H = s.heap := ⟨_, rfl⟩
  obtain ⟨locs, hL⟩ : ∃ L : List Loc, L = [] := ⟨_, rfl⟩
  rw [← hH, ← hL] at hw
  suffices hg : W p l e rmX7_plan s m _ below meth c H locs 0 0 (MQ below (va_Qi (fun x (_ : Unit) => x = res.1) (fun _ t => PW E b res.2 TC MM TM t) (AA b)) _ s 0 0 (AA b)) (F0 m 0 ls []) by rw [hH, hL] at hg; exact hg
  clear hH hL
  rw [gX7_plan] at hf
  refine lv_aload_n hx hb dX7_plan_0 rfl (lv_at hl 0 rfl) ?_
  refine lv_iload_n hx hb dX7_plan_1 rfl (lv_at hl 1 rfl) ?_
  obtain ⟨u100, q101, hf⟩ := ob hf
  refine cVi (As := [.int x1]) X hw (ctX7_isOne l E b  q101) ⟨mw_404, mw_406, mw_9, mw_52, mw_407⟩ hd_X7_isOne ⟨Nat.le_of_ble_eq_true rfl, Nat.le_of_ble_eq_true rfl, rfl, rfl⟩ (kdk kk_0 (by decide)) (ce_X7 E _ _ _ _ kk_0) (show vwCl[7]? = some (RX7, TX7, 11) from rfl) rfl hl.1 rfl (Nat.le_of_ble_eq_true rfl) dX7_plan_2 (fun H locs hw => ?_)
  refine lv_if_eq (tgt := 38) hx hb dX7_plan_5 (by decide) (fun c102 => ?_) (fun c102 => ?_)
  · replace hf := (if_pos c102).symm.trans hf
    refine lv_iconst (v := (-1)) hx hb dX7_plan_38 (by decide) ?_
    replace hf := Option.some.inj hf
    subst hf
    exact eI X hw hr hlk dX7_plan_39
  · replace hf := (if_neg c102).symm.trans hf
    refine lv_iload_n hx hb dX7_plan_8 rfl (lv_at hl 2 rfl) ?_
    refine lv_iconst (v := 1) hx hb dX7_plan_9 (by decide) ?_
    refine lv_bipush (v := 20) hx hb dX7_plan_10 (by decide) ?_
    obtain ⟨u103, q104, hf⟩ := ob hf
    refine cSi (As := [.int x2, .int 1, .int 20]) X hw (ctX7_within l E b  q104) ⟨mw_316, mw_317, mw_52, mw_318⟩ hd_X7_within ⟨Nat.le_of_ble_eq_true rfl, Nat.le_of_ble_eq_true rfl, rfl, rfl⟩ rfl hl.1 rfl (Nat.le_of_ble_eq_true rfl) dX7_plan_12 (fun H locs hw => ?_)
    refine lv_if_eq (tgt := 38) hx hb dX7_plan_15 (by decide) (fun c105 => ?_) (fun c105 => ?_)
    · replace hf := (if_pos c105).symm.trans hf
      refine lv_iconst (v := (-1)) hx hb dX7_plan_38 (by decide) ?_
      replace hf := Option.some.inj hf
      subst hf
      exact eI X hw hr hlk dX7_plan_39
    · replace hf := (if_neg c105).symm.trans hf
      refine lv_iload_n hx hb dX7_plan_18 rfl (lv_at hl 3 rfl) ?_
      refine lv_iconst (v := 1) hx hb dX7_plan_19 (by decide) ?_
      refine lv_bipush (v := 12) hx hb dX7_plan_20 (by decide) ?_
      obtain ⟨u106, q107, hf⟩ := ob hf
      refine cSi (As := [.int x3, .int 1, .int 12]) X hw (ctX7_within l E b  q107) ⟨mw_316, mw_317, mw_52, mw_318⟩ hd_X7_within ⟨Nat.le_of_ble_eq_true rfl, Nat.le_of_ble_eq_true rfl, rfl, rfl⟩ rfl hl.1 rfl (Nat.le_of_ble_eq_true rfl) dX7_plan_22 (fun H locs hw => ?_)
      refine lv_if_eq (tgt := 38) hx hb dX7_plan_25 (by decide) (fun c108 => ?_) (fun c108 => ?_)
      · replace hf := (if_pos c108).symm.trans hf
        refine lv_iconst (v := (-1)) hx hb dX7_plan_38 (by decide) ?_
        replace hf := Option.some.inj hf
        subst hf
        exact eI X hw hr hlk dX7_plan_39
      · replace hf := (if_neg c108).symm.trans hf
        refine lv_iload hx hb dX7_plan_28 (lv_at hl 4 rfl) ?_
        refine lv_iconst (v := 0) hx hb dX7_plan_30 (by decide) ?_
        refine lv_iconst (v := 1) hx hb dX7_plan_31 (by decide) ?_
        obtain ⟨u109, q110, hf⟩ := ob hf
        refine cSi (As := [.int x4, .int 0, .int 1]) X hw (ctX7_within l E b  q110) ⟨mw_316, mw_317, mw_52, mw_318⟩ hd_X7_within ⟨Nat.le_of_ble_eq_true rfl, Nat.le_of_ble_eq_true rfl, rfl, rfl⟩ rfl hl.1 rfl (Nat.le_of_ble_eq_true rfl) dX7_plan_32 (fun H locs hw => ?_)
        refine lv_if_ne (tgt := 40) hx hb dX7_plan_35 (by decide) (fun c111 => ?_) (fun c111 => ?_)
        · replace hf := (if_neg c111).symm.trans hf
          refine lv_aload_n hx hb dX7_plan_40 rfl (lv_at hl 0 rfl) ?_
          refine gt_X7 X hw 6 kk_0 rfl (by decide) mw_284 rfl dX7_plan_41 ?_
          refine lv_aload_n hx hb dX7_plan_44 rfl (lv_at hl 0 rfl) ?_
          refine gt_X7 X hw 7 kk_0 rfl (by decide) mw_285 rfl dX7_plan_45 ?_
          refine lv_aload_n hx hb dX7_plan_48 rfl (lv_at hl 0 rfl) ?_
          refine gt_X7 X hw 2 kk_0 rfl (by decide) mw_280 rfl dX7_plan_49 ?_
          refine gt_X5 X hw 0 kk_8 rfl (by decide) mw_205 rfl dX7_plan_52 ?_
          refine lv_iload_n hx hb dX7_plan_55 rfl (lv_at hl 1 rfl) ?_
          refine lv_iload_n hx hb dX7_plan_56 rfl (lv_at hl 2 rfl) ?_
          obtain ⟨u112, q113, hf⟩ := ob hf
          refine cVv (As := [.ref (b + 191), .ref (b + 9), .int x1, .int x2]) X hw (ctX3_grow l E b kk_191 kk_9 q113) ⟨mw_541, mw_542, mw_543, mw_60, mw_544⟩ hd_X3_grow ⟨Nat.le_of_ble_eq_true rfl, Nat.le_of_ble_eq_true rfl, rfl, rfl⟩ (kdk kk_185 (by decide)) (ce_X3 E _ _ _ _ kk_185) (show vwCl[3]? = some (RX3, TX3, 8) from rfl) rfl hl.1 rfl (Nat.le_of_ble_eq_true rfl) dX7_plan_57 (fun H locs hw => ?_)
          refine lv_aload_n hx hb dX7_plan_60 rfl (lv_at hl 0 rfl) ?_
          refine gt_X7 X hw 6 kk_0 rfl (by decide) mw_284 rfl dX7_plan_61 ?_
          refine lv_aload_n hx hb dX7_plan_64 rfl (lv_at hl 0 rfl) ?_
          refine gt_X7 X hw 7 kk_0 rfl (by decide) mw_285 rfl dX7_plan_65 ?_
          refine gt_X6 X hw 0 kk_191 rfl (by decide) mw_104 rfl dX7_plan_68 ?_
          refine lv_iload_n hx hb dX7_plan_71 rfl (lv_at hl 1 rfl) ?_
          obtain ⟨v114, q115, hf⟩ := ob hf
          refine aldC X hw kdv_192 q115 dX7_plan_72 ?_
          refine lv_iload_n hx hb dX7_plan_73 rfl (lv_at hl 2 rfl) ?_
          refine lv_iload_n hx hb dX7_plan_74 rfl (lv_at hl 3 rfl) ?_
          obtain ⟨u116, q117, hf⟩ := ob hf
          refine cVi (As := [.int v114, .int x2, .int x3]) X hw (ctX3_firstFailingEvening l E b  q117) ⟨mw_547, mw_548, mw_549, mw_60, mw_550⟩ hd_X3_firstFailingEvening ⟨Nat.le_of_ble_eq_true rfl, Nat.le_of_ble_eq_true rfl, rfl, rfl⟩ (kdk kk_185 (by decide)) (ce_X3 E _ _ _ _ kk_185) (show vwCl[3]? = some (RX3, TX3, 8) from rfl) rfl hl.1 rfl (Nat.le_of_ble_eq_true rfl) dX7_plan_75 (fun H locs hw => ?_)
          refine lv_istore (lv' := [(5, .int u116.1), (0, .ref (b + 0)), (1, .int x1), (2, .int x2), (3, .int x3), (4, .int x4)]) hx hb dX7_plan_78 hl (by decide) rfl (fun ls hl => ?_)
          refine lv_iload hx hb dX7_plan_80 (lv_at hl 5 rfl) ?_
          refine lv_iconst (v := 1) hx hb dX7_plan_82 (by decide) ?_
          refine lv_icmp_ne (tgt := 89) hx hb dX7_plan_83 (by decide) (fun c118 => ?_) (fun c118 => ?_)
          · replace hf := (if_neg c118).symm.trans hf
            refine lv_iload hx hb dX7_plan_89 (lv_at hl 0 rfl) ?_
            refine lv_bipush (v := (-9)) hx hb dX7_plan_91 (by decide) ?_
            refine lv_icmp_ne (tgt := 106) hx hb dX7_plan_93 (by decide) (fun c119 => ?_) (fun c119 => ?_)
            · replace hf := (if_neg c119).symm.trans hf
              refine lv_bipush (v := (-9)) hx hb dX7_plan_106 (by decide) ?_
              exact tX7_plan_108 X hr hlk ((-9)) u116.2 hf H locs ls hw (lv_sub hl [] rfl)
            · replace hf := (if_pos c119).symm.trans hf
              refine lv_aload_n hx hb dX7_plan_96 rfl (lv_at hl 1 rfl) ?_
              refine gt_X7 X hw 6 kk_0 rfl (by decide) mw_284 rfl dX7_plan_97 ?_
              obtain ⟨u120, q121, hf⟩ := ob hf
              refine cVi (As := []) X hw (ctX3_fewestCuts l E b  q121) ⟨mw_561, mw_558, mw_559, mw_60, mw_560⟩ hd_X3_fewestCuts ⟨Nat.le_of_ble_eq_true rfl, Nat.le_of_ble_eq_true rfl, rfl, rfl⟩ (kdk kk_185 (by decide)) (ce_X3 E _ _ _ _ kk_185) (show vwCl[3]? = some (RX3, TX3, 8) from rfl) rfl hl.1 rfl (Nat.le_of_ble_eq_true rfl) dX7_plan_100 (fun H locs hw => ?_)
              refine lv_goto (tgt := 108) hx hb dX7_plan_103 (by decide) ?_
              exact tX7_plan_108 X hr hlk u120 u116.2 hf H locs ls hw (lv_sub hl [] rfl)
          · replace hf := (if_pos c118).symm.trans hf
            refine lv_iload hx hb dX7_plan_86 (lv_at hl 0 rfl) ?_
            replace hf := Option.some.inj hf
            subst hf
            exact eI X hw hr hlk dX7_plan_88
        · replace hf := (if_pos c111).symm.trans hf
          refine lv_iconst (v := (-1)) hx hb dX7_plan_38 (by decide) ?_
          replace hf := Option.some.inj hf
          subst hf
          exact eI X hw hr hlk dX7_plan_39

abbrev rmX7_least : Room := { frames := 3, cells := 0, slots := 0, locals := 71 }
theorem hd_X7_least : Hd yX7_least RX7 3 := by decide +kernel
def gX7_least (x1 : Int32) (x2 : Int32) (x3 : Int32) (M : Mem) : Option (Int32 × Mem) := (gX7_isOne x1 M).bind fun u122 => if u122 = 0 then (some ((-1), M)) else ((gX7_isThought x2).bind fun u125 => if u125 = 0 then (some ((-1), M)) else ((gX7_within x3 1 8).bind fun u128 => if u128 = 0 then (some ((-1), M)) else ((gX3_grow 191 9 x1 x3 M).bind fun u131 => (gX3_fewestDays x2 u131).bind fun u133 => some (u133.1, u133.2))))
set_option maxHeartbeats 4000000 in
set_option maxRecDepth 100000 in
theorem ctX7_least (l : Launch) (E : EE) (b : Nat) {TC : Int64} {MM : Mem} {TM : Int64} {x1 : Int32} {x2 : Int32} {x3 : Int32} {M : Mem} {res : Int32 × Mem}  (hf : gX7_least x1 x2 x3 M = some res) : MetI l E b yX7_least (.code yX7_least cX7_least 4 (some .int)) rmX7_least [.ref (b + 0), .int x1, .int x2, .int x3] M TC MM TM res.1 res.2 TC MM TM := by
  refine Met.ofW (cc := cX7_least) (maxL := 4) (ret := (some .int)) (by decide) rfl ?_
  intro p e s m args below meth c s₁ B hml hv
  obtain ⟨rfl, hP, hK⟩ := hv
  have hx := B.exec
  have hb := B.bytes
  have X : CX E p s m _ c cX7_least 4 RX7 := ⟨hx, hb, hml, findClass_of_methodNamed B.named, fun w h => atoms_spec (ws := _ :: wt) B.pre w (List.mem_cons_of_mem _ h), hK⟩
  have hr := B.returns
  have hlk := B.notSynchronized
  have hw : WW E b M TC MM TM s s.heap [] := ⟨hP, va_S.rf⟩
  have hl := lv_entry ([.ref (b + 0), .int x1, .int x2, .int x3]) (n := 4) (Nat.le_of_ble_eq_true rfl)
  rw [lg_entry_eq]
  generalize (lg_sl ([.ref (b + 0), .int x1, .int x2, .int x3]) ++ List.replicate (4 - (lg_sl ([.ref (b + 0), .int x1, .int x2, .int x3])).length) Slot.unset).toArray = ls at hl ⊢
  have hl : lv_has ls 4 [(0, .ref (b + 0)), (1, .int x1), (2, .int x2), (3, .int x3)] := hl
  obtain ⟨H, hH⟩ : ∃ H, H = s.heap := ⟨_, rfl⟩
  obtain ⟨locs, hL⟩ : ∃ L : List Loc, L = [] := ⟨_, rfl⟩
  rw [← hH, ← hL] at hw
  suffices hg : W p l e rmX7_least s m _ below meth c H locs 0 0 (MQ below (va_Qi (fun x (_ : Unit) => x = res.1) (fun _ t => PW E b res.2 TC MM TM t) (AA b)) _ s 0 0 (AA b)) (F0 m 0 ls []) by rw [hH, hL] at hg; exact hg
  clear hH hL
  rw [gX7_least] at hf
  refine lv_aload_n hx hb dX7_least_0 rfl (lv_at hl 0 rfl) ?_
  refine lv_iload_n hx hb dX7_least_1 rfl (lv_at hl 1 rfl) ?_
  obtain ⟨u122, q123, hf⟩ := ob hf
  refine cVi (As := [.int x1]) X hw (ctX7_isOne l E b  q123) ⟨mw_404, mw_406, mw_9, mw_52, mw_407⟩ hd_X7_isOne ⟨Nat.le_of_ble_eq_true rfl, Nat.le_of_ble_eq_true rfl, rfl, rfl⟩ (kdk kk_0 (by decide)) (ce_X7 E _ _ _ _ kk_0) (show vwCl[7]? = some (RX7, TX7, 11) from rfl) rfl hl.1 rfl (Nat.le_of_ble_eq_true rfl) dX7_least_2 (fun H locs hw => ?_)
  refine lv_if_eq (tgt := 25) hx hb dX7_least_5 (by decide) (fun c124 => ?_) (fun c124 => ?_)
  · replace hf := (if_pos c124).symm.trans hf
    refine lv_iconst (v := (-1)) hx hb dX7_least_25 (by decide) ?_
    replace hf := Option.some.inj hf
    subst hf
    exact eI X hw hr hlk dX7_least_26
  · replace hf := (if_neg c124).symm.trans hf
    refine lv_iload_n hx hb dX7_least_8 rfl (lv_at hl 2 rfl) ?_
    obtain ⟨u125, q126, hf⟩ := ob hf
    refine cSi (As := [.int x2]) X hw (ctX7_isThought l E b  q126) ⟨mw_432, mw_433, mw_52, mw_434⟩ hd_X7_isThought ⟨Nat.le_of_ble_eq_true rfl, Nat.le_of_ble_eq_true rfl, rfl, rfl⟩ rfl hl.1 rfl (Nat.le_of_ble_eq_true rfl) dX7_least_9 (fun H locs hw => ?_)
    refine lv_if_eq (tgt := 25) hx hb dX7_least_12 (by decide) (fun c127 => ?_) (fun c127 => ?_)
    · replace hf := (if_pos c127).symm.trans hf
      refine lv_iconst (v := (-1)) hx hb dX7_least_25 (by decide) ?_
      replace hf := Option.some.inj hf
      subst hf
      exact eI X hw hr hlk dX7_least_26
    · replace hf := (if_neg c127).symm.trans hf
      refine lv_iload_n hx hb dX7_least_15 rfl (lv_at hl 3 rfl) ?_
      refine lv_iconst (v := 1) hx hb dX7_least_16 (by decide) ?_
      refine lv_bipush (v := 8) hx hb dX7_least_17 (by decide) ?_
      obtain ⟨u128, q129, hf⟩ := ob hf
      refine cSi (As := [.int x3, .int 1, .int 8]) X hw (ctX7_within l E b  q129) ⟨mw_316, mw_317, mw_52, mw_318⟩ hd_X7_within ⟨Nat.le_of_ble_eq_true rfl, Nat.le_of_ble_eq_true rfl, rfl, rfl⟩ rfl hl.1 rfl (Nat.le_of_ble_eq_true rfl) dX7_least_19 (fun H locs hw => ?_)
      refine lv_if_ne (tgt := 27) hx hb dX7_least_22 (by decide) (fun c130 => ?_) (fun c130 => ?_)
      · replace hf := (if_neg c130).symm.trans hf
        refine lv_aload_n hx hb dX7_least_27 rfl (lv_at hl 0 rfl) ?_
        refine gt_X7 X hw 6 kk_0 rfl (by decide) mw_284 rfl dX7_least_28 ?_
        refine lv_aload_n hx hb dX7_least_31 rfl (lv_at hl 0 rfl) ?_
        refine gt_X7 X hw 7 kk_0 rfl (by decide) mw_285 rfl dX7_least_32 ?_
        refine lv_aload_n hx hb dX7_least_35 rfl (lv_at hl 0 rfl) ?_
        refine gt_X7 X hw 2 kk_0 rfl (by decide) mw_280 rfl dX7_least_36 ?_
        refine gt_X5 X hw 0 kk_8 rfl (by decide) mw_205 rfl dX7_least_39 ?_
        refine lv_iload_n hx hb dX7_least_42 rfl (lv_at hl 1 rfl) ?_
        refine lv_iload_n hx hb dX7_least_43 rfl (lv_at hl 3 rfl) ?_
        obtain ⟨u131, q132, hf⟩ := ob hf
        refine cVv (As := [.ref (b + 191), .ref (b + 9), .int x1, .int x3]) X hw (ctX3_grow l E b kk_191 kk_9 q132) ⟨mw_541, mw_542, mw_543, mw_60, mw_544⟩ hd_X3_grow ⟨Nat.le_of_ble_eq_true rfl, Nat.le_of_ble_eq_true rfl, rfl, rfl⟩ (kdk kk_185 (by decide)) (ce_X3 E _ _ _ _ kk_185) (show vwCl[3]? = some (RX3, TX3, 8) from rfl) rfl hl.1 rfl (Nat.le_of_ble_eq_true rfl) dX7_least_44 (fun H locs hw => ?_)
        refine lv_aload_n hx hb dX7_least_47 rfl (lv_at hl 0 rfl) ?_
        refine gt_X7 X hw 6 kk_0 rfl (by decide) mw_284 rfl dX7_least_48 ?_
        refine lv_iload_n hx hb dX7_least_51 rfl (lv_at hl 2 rfl) ?_
        obtain ⟨u133, q134, hf⟩ := ob hf
        refine cVi (As := [.int x2]) X hw (ctX3_fewestDays l E b  q134) ⟨mw_566, mw_567, mw_568, mw_60, mw_569⟩ hd_X3_fewestDays ⟨Nat.le_of_ble_eq_true rfl, Nat.le_of_ble_eq_true rfl, rfl, rfl⟩ (kdk kk_185 (by decide)) (ce_X3 E _ _ _ _ kk_185) (show vwCl[3]? = some (RX3, TX3, 8) from rfl) rfl hl.1 rfl (Nat.le_of_ble_eq_true rfl) dX7_least_52 (fun H locs hw => ?_)
        replace hf := Option.some.inj hf
        subst hf
        exact eI X hw hr hlk dX7_least_55
      · replace hf := (if_pos c130).symm.trans hf
        refine lv_iconst (v := (-1)) hx hb dX7_least_25 (by decide) ?_
        replace hf := Option.some.inj hf
        subst hf
        exact eI X hw hr hlk dX7_least_26

abbrev rmX7_has : Room := { frames := 0, cells := 0, slots := 0, locals := 0 }
theorem hd_X7_has : Hd yX7_has RX7 2 := by decide +kernel
def gX7_has_13   (y0 : Int32) : Option (Int32) := (zr y0).bind fun v136 => some (v136)
def gX7_has (x0 : Int32) (x1 : Int32) : Option (Int32) := if ((x0 >>> (x1 &&& 31)) &&& 1) = 0 then (gX7_has_13 0) else (gX7_has_13 1)
set_option maxHeartbeats 4000000 in
set_option maxRecDepth 100000 in
theorem tX7_has_13 {p : Program} {l : Launch} {e : Env} {s : State} {m : MethodId} {args : Array Value} {below : List Frame} {meth : Method} {c : Code} {E : EE} {b : Nat} {MC : Mem} {TC : Int64} {MM : Mem} {TM : Int64} {res : Int32} (X : CX E p s m args c cX7_has 2 RX7) (hr : meth.sig.returnType = (some .boolean)) (hlk : meth.locks = false)    : ∀ (y0 : Int32), gX7_has_13 y0 = some res → ∀ (H : Heap) (locs : List Loc) (ls : Array Slot), WW E b MC TC MM TM s H locs → lv_has ls 2 [] → W p l e rmX7_has s m args below meth c H locs 0 0 (MQ below (va_Qi (fun x (_ : Unit) => x = res) (fun _ t => PW E b MC TC MM TM t) (AA b)) args s 0 0 (AA b)) (F0 m 13 ls [.int y0]) := by
  have hx := X.1
  have hb := X.2.1
  intro y0 hf H locs ls hw hl
  rw [gX7_has_13] at hf
  obtain ⟨v136, q137, hf⟩ := ob hf
  obtain ⟨eq137, q137⟩ := zr_s q137
  rw [eq137]
  replace hf := Option.some.inj hf
  subst hf
  exact eZ X hw q137 hr hlk dX7_has_13
set_option maxHeartbeats 4000000 in
set_option maxRecDepth 100000 in
theorem ctX7_has (l : Launch) (E : EE) (b : Nat) {MC : Mem} {TC : Int64} {MM : Mem} {TM : Int64} {x0 : Int32} {x1 : Int32} {res : Int32}  (hf : gX7_has x0 x1 = some res) : MetI l E b yX7_has (.code yX7_has cX7_has 2 (some .boolean)) rmX7_has [.int x0, .int x1] MC TC MM TM res MC TC MM TM := by
  refine Met.ofW (cc := cX7_has) (maxL := 2) (ret := (some .boolean)) (by decide) rfl ?_
  intro p e s m args below meth c s₁ B hml hv
  obtain ⟨rfl, hP, hK⟩ := hv
  have hx := B.exec
  have hb := B.bytes
  have X : CX E p s m _ c cX7_has 2 RX7 := ⟨hx, hb, hml, findClass_of_methodNamed B.named, fun w h => atoms_spec (ws := _ :: wt) B.pre w (List.mem_cons_of_mem _ h), hK⟩
  have hr := B.returns
  have hlk := B.notSynchronized
  have hw : WW E b MC TC MM TM s s.heap [] := ⟨hP, va_S.rf⟩
  have hl := lv_entry ([.int x0, .int x1]) (n := 2) (Nat.le_of_ble_eq_true rfl)
  rw [lg_entry_eq]
  generalize (lg_sl ([.int x0, .int x1]) ++ List.replicate (2 - (lg_sl ([.int x0, .int x1])).length) Slot.unset).toArray = ls at hl ⊢
  have hl : lv_has ls 2 [(0, .int x0), (1, .int x1)] := hl
  obtain ⟨H, hH⟩ : ∃ H, H = s.heap := ⟨_, rfl⟩
  obtain ⟨locs, hL⟩ : ∃ L : List Loc, L = [] := ⟨_, rfl⟩
  rw [← hH, ← hL] at hw
  suffices hg : W p l e rmX7_has s m _ below meth c H locs 0 0 (MQ below (va_Qi (fun x (_ : Unit) => x = res) (fun _ t => PW E b MC TC MM TM t) (AA b)) _ s 0 0 (AA b)) (F0 m 0 ls []) by rw [hH, hL] at hg; exact hg
  clear hH hL
  rw [gX7_has] at hf
  refine lv_iload_n hx hb dX7_has_0 rfl (lv_at hl 0 rfl) ?_
  refine lv_iload_n hx hb dX7_has_1 rfl (lv_at hl 1 rfl) ?_
  refine lv_ishr hx hb dX7_has_2 ?_
  refine lv_iconst (v := 1) hx hb dX7_has_3 (by decide) ?_
  refine lv_iand hx hb dX7_has_4 ?_
  refine lv_if_eq (tgt := 12) hx hb dX7_has_5 (by decide) (fun c135 => ?_) (fun c135 => ?_)
  · replace hf := (if_pos c135).symm.trans hf
    refine lv_iconst (v := 0) hx hb dX7_has_12 (by decide) ?_
    exact tX7_has_13 X hr hlk 0 hf H locs ls hw (lv_sub hl [] rfl)
  · replace hf := (if_neg c135).symm.trans hf
    refine lv_iconst (v := 1) hx hb dX7_has_8 (by decide) ?_
    refine lv_goto (tgt := 13) hx hb dX7_has_9 (by decide) ?_
    exact tX7_has_13 X hr hlk 1 hf H locs ls hw (lv_sub hl [] rfl)

abbrev rmX7_thoughtsOf : Room := { frames := 1, cells := 0, slots := 0, locals := 21 }
theorem hd_X7_thoughtsOf : Hd yX7_thoughtsOf RX7 1 := by decide +kernel
def gX7_thoughtsOf_32  (k4 : Int32 → Int32 → Int32 → Mem → Option (Int32)) (x1 : Int32) (x2 : Int32) (x3 : Int32) (M : Mem) : Option (Int32) := (some (x3 + 1)).bind fun z142 => k4 x1 x2 z142 M
def gX7_thoughtsOf_4   : Nat → Int32 → Int32 → Int32 → Mem → Option (Int32)
  | 0, _, _, _, _ => none
  | n + 1, x1, x2, x3, M => if (M 191 3) ≤ x3 then (some (x2)) else ((gX7_has x1 x3).bind fun u139 => if u139 = 0 then (gX7_thoughtsOf_32 (gX7_thoughtsOf_4 n) x1 x2 x3 M) else ((ldA 20 (M 196) x3).bind fun v143 => (some (x2 ||| v143)).bind fun z145 => gX7_thoughtsOf_32 (gX7_thoughtsOf_4 n) x1 z145 x3 M))
def gX7_thoughtsOf (x1 : Int32) (M : Mem) : Option (Int32) := gX7_thoughtsOf_4 FU x1 0 0 M
set_option maxHeartbeats 4000000 in
set_option maxRecDepth 100000 in
theorem tX7_thoughtsOf_32 {p : Program} {l : Launch} {e : Env} {s : State} {m : MethodId} {args : Array Value} {below : List Frame} {meth : Method} {c : Code} {E : EE} {b : Nat} {TC : Int64} {MM : Mem} {TM : Int64} {res : Int32} (X : CX E p s m args c cX7_thoughtsOf 4 RX7) (hr : meth.sig.returnType = (some .int)) (hlk : meth.locks = false)   {k4 : Int32 → Int32 → Int32 → Mem → Option (Int32)} (hk4 : ∀ (x1 : Int32) (x2 : Int32) (x3 : Int32) (M : Mem), k4 x1 x2 x3 M = some res → ∀ (H : Heap) (locs : List Loc) (ls : Array Slot), WW E b M TC MM TM s H locs → lv_has ls 4 [(0, .ref (b + 0)), (1, .int x1), (2, .int x2), (3, .int x3)] → W p l e rmX7_thoughtsOf s m args below meth c H locs 0 0 (MQ below (va_Qi (fun x (_ : Unit) => x = res) (fun _ t => PW E b M TC MM TM t) (AA b)) args s 0 0 (AA b)) (F0 m 4 ls [])) : ∀ (x1 : Int32) (x2 : Int32) (x3 : Int32) (M : Mem), gX7_thoughtsOf_32 k4 x1 x2 x3 M = some res → ∀ (H : Heap) (locs : List Loc) (ls : Array Slot), WW E b M TC MM TM s H locs → lv_has ls 4 [(0, .ref (b + 0)), (1, .int x1), (2, .int x2), (3, .int x3)] → W p l e rmX7_thoughtsOf s m args below meth c H locs 0 0 (MQ below (va_Qi (fun x (_ : Unit) => x = res) (fun _ t => PW E b M TC MM TM t) (AA b)) args s 0 0 (AA b)) (F0 m 32 ls []) := by
  have hx := X.1
  have hb := X.2.1
  intro x1 x2 x3 M hf H locs ls hw hl
  rw [gX7_thoughtsOf_32] at hf
  obtain ⟨z142, ez142⟩ : ∃ y : Int32, y = x3 + 1 := ⟨_, rfl⟩
  replace hf := nmb hf ez142
  refine lv_iinc (v := z142) (lv' := [(3, .int z142), (0, .ref (b + 0)), (1, .int x1), (2, .int x2)]) hx hb dX7_thoughtsOf_32 hl (k := 3) rfl (by rw [ez142]; rfl) (by decide) rfl (fun ls hl => ?_)
  refine lv_goto (tgt := 4) hx hb dX7_thoughtsOf_35 (by decide) ?_
  exact hk4 x1 x2 z142 M hf H locs ls hw (lv_sub hl [1, 2, 3, 0] rfl)
set_option maxHeartbeats 4000000 in
set_option maxRecDepth 100000 in
theorem tX7_thoughtsOf_4 {p : Program} {l : Launch} {e : Env} {s : State} {m : MethodId} {args : Array Value} {below : List Frame} {meth : Method} {c : Code} {E : EE} {b : Nat} {TC : Int64} {MM : Mem} {TM : Int64} {res : Int32} (X : CX E p s m args c cX7_thoughtsOf 4 RX7) (hr : meth.sig.returnType = (some .int)) (hlk : meth.locks = false)    : ∀ (n : Nat) (x1 : Int32) (x2 : Int32) (x3 : Int32) (M : Mem), gX7_thoughtsOf_4 n x1 x2 x3 M = some res → ∀ (H : Heap) (locs : List Loc) (ls : Array Slot), WW E b M TC MM TM s H locs → lv_has ls 4 [(0, .ref (b + 0)), (1, .int x1), (2, .int x2), (3, .int x3)] → W p l e rmX7_thoughtsOf s m args below meth c H locs 0 0 (MQ below (va_Qi (fun x (_ : Unit) => x = res) (fun _ t => PW E b M TC MM TM t) (AA b)) args s 0 0 (AA b)) (F0 m 4 ls []) := by
  have hx := X.1
  have hb := X.2.1
  intro n
  induction n with
  | zero =>
    intro x1 x2 x3 M hf
    cases (show (none : Option (Int32)) = some res from hf)
  | succ n ih =>
    intro x1 x2 x3 M hf H locs ls hw hl
    rw [gX7_thoughtsOf_4] at hf
    refine lv_iload_n hx hb dX7_thoughtsOf_4 rfl (lv_at hl 3 rfl) ?_
    refine lv_aload_n hx hb dX7_thoughtsOf_5 rfl (lv_at hl 0 rfl) ?_
    refine gt_X7 X hw 7 kk_0 rfl (by decide) mw_285 rfl dX7_thoughtsOf_6 ?_
    refine gt_X6 X hw 3 kk_191 rfl (by decide) mw_114 rfl dX7_thoughtsOf_9 ?_
    refine lv_icmp_ge (tgt := 38) hx hb dX7_thoughtsOf_12 (by decide) (fun c138 => ?_) (fun c138 => ?_)
    · replace hf := (if_pos c138).symm.trans hf
      refine lv_iload_n hx hb dX7_thoughtsOf_38 rfl (lv_at hl 2 rfl) ?_
      replace hf := Option.some.inj hf
      subst hf
      exact eI X hw hr hlk dX7_thoughtsOf_39
    · replace hf := (if_neg c138).symm.trans hf
      refine lv_iload_n hx hb dX7_thoughtsOf_15 rfl (lv_at hl 1 rfl) ?_
      refine lv_iload_n hx hb dX7_thoughtsOf_16 rfl (lv_at hl 3 rfl) ?_
      obtain ⟨u139, q140, hf⟩ := ob hf
      refine cSi (As := [.int x1, .int x3]) X hw (ctX7_has l E b  q140) ⟨mw_599, mw_600, mw_52, mw_601⟩ hd_X7_has ⟨Nat.le_of_ble_eq_true rfl, Nat.le_of_ble_eq_true rfl, rfl, rfl⟩ rfl hl.1 rfl (Nat.le_of_ble_eq_true rfl) dX7_thoughtsOf_17 (fun H locs hw => ?_)
      refine lv_if_eq (tgt := 32) hx hb dX7_thoughtsOf_20 (by decide) (fun c141 => ?_) (fun c141 => ?_)
      · replace hf := (if_pos c141).symm.trans hf
        exact tX7_thoughtsOf_32 X hr hlk ih x1 x2 x3 M hf H locs ls hw (lv_sub hl [0, 1, 2, 3] rfl)
      · replace hf := (if_neg c141).symm.trans hf
        refine lv_iload_n hx hb dX7_thoughtsOf_23 rfl (lv_at hl 2 rfl) ?_
        refine lv_aload_n hx hb dX7_thoughtsOf_24 rfl (lv_at hl 0 rfl) ?_
        refine gt_X7 X hw 9 kk_0 rfl (by decide) mw_287 rfl dX7_thoughtsOf_25 ?_
        refine lv_iload_n hx hb dX7_thoughtsOf_28 rfl (lv_at hl 3 rfl) ?_
        obtain ⟨v143, q144, hf⟩ := ob hf
        refine aldC X hw kdv_196 q144 dX7_thoughtsOf_29 ?_
        refine lv_ior hx hb dX7_thoughtsOf_30 ?_
        refine lv_topi (fun z145 ez145 => ?_)
        replace hf := nmb hf ez145
        refine lv_istore_n (lv' := [(2, .int z145), (0, .ref (b + 0)), (1, .int x1), (3, .int x3)]) hx hb dX7_thoughtsOf_31 rfl hl (by decide) rfl (fun ls hl => ?_)
        exact tX7_thoughtsOf_32 X hr hlk ih x1 z145 x3 M hf H locs ls hw (lv_sub hl [1, 2, 0, 3] rfl)
set_option maxHeartbeats 4000000 in
set_option maxRecDepth 100000 in
theorem ctX7_thoughtsOf (l : Launch) (E : EE) (b : Nat) {TC : Int64} {MM : Mem} {TM : Int64} {x1 : Int32} {M : Mem} {res : Int32}  (hf : gX7_thoughtsOf x1 M = some res) : MetI l E b yX7_thoughtsOf (.code yX7_thoughtsOf cX7_thoughtsOf 4 (some .int)) rmX7_thoughtsOf [.ref (b + 0), .int x1] M TC MM TM res M TC MM TM := by
  refine Met.ofW (cc := cX7_thoughtsOf) (maxL := 4) (ret := (some .int)) (by decide) rfl ?_
  intro p e s m args below meth c s₁ B hml hv
  obtain ⟨rfl, hP, hK⟩ := hv
  have hx := B.exec
  have hb := B.bytes
  have X : CX E p s m _ c cX7_thoughtsOf 4 RX7 := ⟨hx, hb, hml, findClass_of_methodNamed B.named, fun w h => atoms_spec (ws := _ :: wt) B.pre w (List.mem_cons_of_mem _ h), hK⟩
  have hr := B.returns
  have hlk := B.notSynchronized
  have hw : WW E b M TC MM TM s s.heap [] := ⟨hP, va_S.rf⟩
  have hl := lv_entry ([.ref (b + 0), .int x1]) (n := 4) (Nat.le_of_ble_eq_true rfl)
  rw [lg_entry_eq]
  generalize (lg_sl ([.ref (b + 0), .int x1]) ++ List.replicate (4 - (lg_sl ([.ref (b + 0), .int x1])).length) Slot.unset).toArray = ls at hl ⊢
  have hl : lv_has ls 4 [(0, .ref (b + 0)), (1, .int x1)] := hl
  obtain ⟨H, hH⟩ : ∃ H, H = s.heap := ⟨_, rfl⟩
  obtain ⟨locs, hL⟩ : ∃ L : List Loc, L = [] := ⟨_, rfl⟩
  rw [← hH, ← hL] at hw
  suffices hg : W p l e rmX7_thoughtsOf s m _ below meth c H locs 0 0 (MQ below (va_Qi (fun x (_ : Unit) => x = res) (fun _ t => PW E b M TC MM TM t) (AA b)) _ s 0 0 (AA b)) (F0 m 0 ls []) by rw [hH, hL] at hg; exact hg
  clear hH hL
  rw [gX7_thoughtsOf] at hf
  refine lv_iconst (v := 0) hx hb dX7_thoughtsOf_0 (by decide) ?_
  refine lv_istore_n (lv' := [(2, .int 0), (0, .ref (b + 0)), (1, .int x1)]) hx hb dX7_thoughtsOf_1 rfl hl (by decide) rfl (fun ls hl => ?_)
  refine lv_iconst (v := 0) hx hb dX7_thoughtsOf_2 (by decide) ?_
  refine lv_istore_n (lv' := [(3, .int 0), (2, .int 0), (0, .ref (b + 0)), (1, .int x1)]) hx hb dX7_thoughtsOf_3 rfl hl (by decide) rfl (fun ls hl => ?_)
  exact tX7_thoughtsOf_4 X hr hlk FU x1 0 0 M hf H locs ls hw (lv_sub hl [2, 3, 1, 0] rfl)
