theorem C0h_X4 (E : EE) (b : Nat) : C0 E b (2) = .inr (4, [.ref (b + (3)), .int 0]) := by rw [C0, ce_X4 E _ _ _ _ kk_2]; simp [MC0, MM0, show iv 2 = 0 by decide]
theorem C0c_X4_1 (E : EE) (b : Nat) : C0 E b (3) = .inl (E.2.1, 120, .inl fun _ => 0) := C0_0 E b kdv_3 (by decide)
abbrev rmX4_init : Room := { frames := 1, cells := 1, slots := 120, locals := 12 }
theorem hd_X4_init : Hd yX4_init RX4 0 := by decide +kernel
set_option maxHeartbeats 4000000 in
set_option maxRecDepth 100000 in
theorem cn_X4_init (l : Launch) (E : EE) (b : Nat) {c : Nat → va_E} (hc0 : c 2 = .inr (4, [.null, .int 0])) : Met l yX4_init (.code yX4_init cX4_init 1 none :: wt) rmX4_init (va_Pc [.ref (b + 2)] (PN E b (3) c)) (NQ E b (3) 2 (C0 E b) 2 c) 1 120 (AA b) := by
  refine Met.ofW (cc := cX4_init) (maxL := 1) (ret := none) (by decide) rfl ?_
  intro p e s m args below meth c0' s₁ B hml hv
  obtain ⟨rfl, hP, hz, hK⟩ := hv
  have hx := B.exec
  have hb := B.bytes
  have X : CN E p s m _ c0' cX4_init 1 RX4 := ⟨hx, hb, hml, findClass_of_methodNamed B.named, fun w h => atoms_spec (ws := _ :: wt) B.pre w (List.mem_cons_of_mem _ h), hK⟩
  have hr := B.returns
  have hlk := B.notSynchronized
  have hin : meth.name = "<init>" := (name_of_methodNamed B.named B.method).1
  have hw : WN E b (3) c s s.heap [] := ⟨hP, hz, va_S.rf⟩
  have hl := lv_entry ([.ref (b + 2)]) (n := 1) (Nat.le_of_ble_eq_true rfl)
  rw [lg_entry_eq]
  generalize (lg_sl ([.ref (b + 2)]) ++ List.replicate (1 - (lg_sl ([.ref (b + 2)])).length) Slot.unset).toArray = ls at hl ⊢
  have hl : lv_has ls 1 [(0, .ref (b + 2))] := hl
  obtain ⟨H, hH⟩ : ∃ H, H = s.heap := ⟨_, rfl⟩
  obtain ⟨locs, hL⟩ : ∃ L : List Loc, L = [] := ⟨_, rfl⟩
  rw [← hH, ← hL] at hw
  suffices hg : W p l e rmX4_init s m _ below meth c0' H locs 0 0 (MQ below (NQ E b (3) 2 (C0 E b) 2 c) _ s 1 120 (AA b)) (F0 m 0 ls []) by rw [hH, hL] at hg; exact hg
  clear hH hL
  refine lv_aload_n hx hb dX4_init_0 rfl (lv_at hl 0 rfl) ?_
  refine n_obj X mw_84 mw_71 mw_72 hl.1 dX4_init_1 (Nat.le_of_ble_eq_true rfl) (Nat.le_of_ble_eq_true rfl) ?_
  refine lv_aload_n hx hb dX4_init_4 rfl (lv_at hl 0 rfl) ?_
  refine lv_bipush (v := 120) hx hb dX4_init_5 (by decide) ?_
  refine n_newi X hw mw_95 (by decide) (show (120 : Int32).toNatClampNeg = 120 by decide) (by decide) (Nat.le_of_ble_eq_true rfl) (Nat.le_of_ble_eq_true rfl) dX4_init_7 (fun H hw => ?_)
  obtain ⟨c1, e1⟩ : ∃ z : Nat → va_E, z = va_up c (3) (.inl (E.2.1, 120, .inl fun _ => 0)) := ⟨_, rfl⟩
  have hw : WN E b (4) c1 s H locs := by rw [e1]; exact hw
  have hc1 : c1 (2) = .inr (4, [.null, .int 0]) := by rw [e1, va_up_ne _ _ (by omega)]; exact hc0
  refine n_putF X hw 0 (by omega) hc1 in_X4 tyX4_ok nmX4 (show vwCl[4]? = some (RX4, TX4, 2) from rfl) (by decide) mw_85 rfl rfl hin rfl (ty := tyX4 0) (by decide +kernel) rfl rfl (Nat.le_of_ble_eq_true rfl) dX4_init_9 (fun H locs hw => ?_)
  obtain ⟨c2, e2⟩ : ∃ z : Nat → va_E, z = va_up c1 (2) (.inr (4, [.ref (b + (3)), .int 0])) := ⟨_, rfl⟩
  have hw : WN E b (4) c2 s H locs := by rw [e2]; exact hw
  have hc2 : c2 (2) = .inr (4, [.ref (b + (3)), .int 0]) := by rw [e2, va_up_self]
  refine nE (av := #[]) X hw (fun k k1 k2 => ?_) (fun k k1 => ?_) hr hlk dX4_init_12
  · rcases (show k = 2 ∨ k = 3 by omega) with rfl | rfl
    · rw [hc2]; exact (C0h_X4 E b).symm
    · rw [show c2 (3) = .inl (E.2.1, 120, .inl fun _ => 0) by simp [e2, e1, va_up]]; exact (C0c_X4_1 E b).symm
  · rw [e2, va_up_ne _ _ (by omega), e1, va_up_ne _ _ (by omega)]
theorem iv_X6 {o : Nat} (h : (kd o).1 = 6) : iv o = 2 := (show ∀ o, o < 212 → (kd o).1 = 6 → iv o = 2 by decide +kernel) o (kd_lt (by rw [h]; decide)) h
theorem ir_X6_1 {o : Nat} (h : (kd o).1 = 6) : iv (o + 1) = 0 := (show ∀ o, o < 212 → (kd o).1 = 6 → iv (o + 1) = 0 by decide +kernel) o (kd_lt (by rw [h]; decide)) h
theorem ir_X6_2 {o : Nat} (h : (kd o).1 = 6) : iv (o + 2) = 0 := (show ∀ o, o < 212 → (kd o).1 = 6 → iv (o + 2) = 0 by decide +kernel) o (kd_lt (by rw [h]; decide)) h
theorem ir_X6_3 {o : Nat} (h : (kd o).1 = 6) : iv (o + 3) = 0 := (show ∀ o, o < 212 → (kd o).1 = 6 → iv (o + 3) = 0 by decide +kernel) o (kd_lt (by rw [h]; decide)) h
theorem C0h_X6 (E : EE) (b : Nat) {o : Nat} (h0 : (kd o).1 = 6) : C0 E b (o) = .inr (6, [.ref (b + (o + 1)), .ref (b + (o + 2)), .ref (b + (o + 3)), .int 0, .int 12, .int 0]) := by rw [C0, ce_X6 E _ _ _ _ h0]; simp [MC0, MM0, iv_X6 h0]
theorem C0c_X6_1 (E : EE) (b : Nat) {o : Nat} (h0 : (kd o).1 = 6) : C0 E b (o + 1) = .inl (E.2.1, 5, .inl fun _ => 0) := C0_0 E b (kr_X6_0 h0) (ir_X6_1 h0)
theorem C0c_X6_2 (E : EE) (b : Nat) {o : Nat} (h0 : (kd o).1 = 6) : C0 E b (o + 2) = .inl (E.2.1, 5, .inl fun _ => 0) := C0_0 E b (kr_X6_1 h0) (ir_X6_2 h0)
theorem C0c_X6_3 (E : EE) (b : Nat) {o : Nat} (h0 : (kd o).1 = 6) : C0 E b (o + 3) = .inl (E.2.1, 35, .inl fun _ => 0) := C0_0 E b (kr_X6_2 h0) (ir_X6_3 h0)
abbrev rmX6_init : Room := { frames := 1, cells := 3, slots := 45, locals := 12 }
theorem hd_X6_init : Hd yX6_init RX6 0 := by decide +kernel
set_option maxHeartbeats 4000000 in
set_option maxRecDepth 100000 in
theorem cn_X6_init (l : Launch) (E : EE) (b : Nat) {o : Nat} (h0 : (kd o).1 = 6) {c : Nat → va_E} (hc0 : c o = .inr (6, [.null, .null, .null, .int 0, .int 0, .int 0])) : Met l yX6_init (.code yX6_init cX6_init 1 none :: wt) rmX6_init (va_Pc [.ref (b + o)] (PN E b (o + 1) c)) (NQ E b (o + 1) 4 (C0 E b) o c) 3 45 (AA b) := by
  refine Met.ofW (cc := cX6_init) (maxL := 1) (ret := none) (by decide) rfl ?_
  intro p e s m args below meth c0' s₁ B hml hv
  obtain ⟨rfl, hP, hz, hK⟩ := hv
  have hx := B.exec
  have hb := B.bytes
  have X : CN E p s m _ c0' cX6_init 1 RX6 := ⟨hx, hb, hml, findClass_of_methodNamed B.named, fun w h => atoms_spec (ws := _ :: wt) B.pre w (List.mem_cons_of_mem _ h), hK⟩
  have hr := B.returns
  have hlk := B.notSynchronized
  have hin : meth.name = "<init>" := (name_of_methodNamed B.named B.method).1
  have hw : WN E b (o + 1) c s s.heap [] := ⟨hP, hz, va_S.rf⟩
  have hl := lv_entry ([.ref (b + o)]) (n := 1) (Nat.le_of_ble_eq_true rfl)
  rw [lg_entry_eq]
  generalize (lg_sl ([.ref (b + o)]) ++ List.replicate (1 - (lg_sl ([.ref (b + o)])).length) Slot.unset).toArray = ls at hl ⊢
  have hl : lv_has ls 1 [(0, .ref (b + o))] := hl
  obtain ⟨H, hH⟩ : ∃ H, H = s.heap := ⟨_, rfl⟩
  obtain ⟨locs, hL⟩ : ∃ L : List Loc, L = [] := ⟨_, rfl⟩
  rw [← hH, ← hL] at hw
  suffices hg : W p l e rmX6_init s m _ below meth c0' H locs 0 0 (MQ below (NQ E b (o + 1) 4 (C0 E b) o c) _ s 3 45 (AA b)) (F0 m 0 ls []) by rw [hH, hL] at hg; exact hg
  clear hH hL
  refine lv_aload_n hx hb dX6_init_0 rfl (lv_at hl 0 rfl) ?_
  refine n_obj X mw_101 mw_71 mw_72 hl.1 dX6_init_1 (Nat.le_of_ble_eq_true rfl) (Nat.le_of_ble_eq_true rfl) ?_
  refine lv_aload_n hx hb dX6_init_4 rfl (lv_at hl 0 rfl) ?_
  refine lv_iconst (v := 5) hx hb dX6_init_5 (by decide) ?_
  refine n_newi X hw mw_95 (by decide) (show (5 : Int32).toNatClampNeg = 5 by decide) (by decide) (Nat.le_of_ble_eq_true rfl) (Nat.le_of_ble_eq_true rfl) dX6_init_6 (fun H hw => ?_)
  obtain ⟨c1, e1⟩ : ∃ z : Nat → va_E, z = va_up c (o + 1) (.inl (E.2.1, 5, .inl fun _ => 0)) := ⟨_, rfl⟩
  have hw : WN E b (o + 2) c1 s H locs := by rw [e1]; exact hw
  have hc1 : c1 (o) = .inr (6, [.null, .null, .null, .int 0, .int 0, .int 0]) := by rw [e1, va_up_ne _ _ (by omega)]; exact hc0
  refine n_putF X hw 0 (by omega) hc1 in_X6 tyX6_ok nmX6 (show vwCl[6]? = some (RX6, TX6, 6) from rfl) (by decide) mw_102 rfl rfl hin rfl (ty := tyX6 0) (by decide +kernel) rfl rfl (Nat.le_of_ble_eq_true rfl) dX6_init_8 (fun H locs hw => ?_)
  obtain ⟨c2, e2⟩ : ∃ z : Nat → va_E, z = va_up c1 (o) (.inr (6, [.ref (b + (o + 1)), .null, .null, .int 0, .int 0, .int 0])) := ⟨_, rfl⟩
  have hw : WN E b (o + 2) c2 s H locs := by rw [e2]; exact hw
  have hc2 : c2 (o) = .inr (6, [.ref (b + (o + 1)), .null, .null, .int 0, .int 0, .int 0]) := by rw [e2, va_up_self]
  refine lv_aload_n hx hb dX6_init_11 rfl (lv_at hl 0 rfl) ?_
  refine lv_iconst (v := 5) hx hb dX6_init_12 (by decide) ?_
  refine n_newi X hw mw_95 (by decide) (show (5 : Int32).toNatClampNeg = 5 by decide) (by decide) (Nat.le_of_ble_eq_true rfl) (Nat.le_of_ble_eq_true rfl) dX6_init_13 (fun H hw => ?_)
  obtain ⟨c3, e3⟩ : ∃ z : Nat → va_E, z = va_up c2 (o + 2) (.inl (E.2.1, 5, .inl fun _ => 0)) := ⟨_, rfl⟩
  have hw : WN E b (o + 3) c3 s H locs := by rw [e3]; exact hw
  have hc3 : c3 (o) = .inr (6, [.ref (b + (o + 1)), .null, .null, .int 0, .int 0, .int 0]) := by rw [e3, va_up_ne _ _ (by omega)]; exact hc2
  refine n_putF X hw 1 (by omega) hc3 in_X6 tyX6_ok nmX6 (show vwCl[6]? = some (RX6, TX6, 6) from rfl) (by decide) mw_105 rfl rfl hin rfl (ty := tyX6 1) (by decide +kernel) rfl rfl (Nat.le_of_ble_eq_true rfl) dX6_init_15 (fun H locs hw => ?_)
  obtain ⟨c4, e4⟩ : ∃ z : Nat → va_E, z = va_up c3 (o) (.inr (6, [.ref (b + (o + 1)), .ref (b + (o + 2)), .null, .int 0, .int 0, .int 0])) := ⟨_, rfl⟩
  have hw : WN E b (o + 3) c4 s H locs := by rw [e4]; exact hw
  have hc4 : c4 (o) = .inr (6, [.ref (b + (o + 1)), .ref (b + (o + 2)), .null, .int 0, .int 0, .int 0]) := by rw [e4, va_up_self]
  refine lv_aload_n hx hb dX6_init_18 rfl (lv_at hl 0 rfl) ?_
  refine lv_bipush (v := 35) hx hb dX6_init_19 (by decide) ?_
  refine n_newi X hw mw_95 (by decide) (show (35 : Int32).toNatClampNeg = 35 by decide) (by decide) (Nat.le_of_ble_eq_true rfl) (Nat.le_of_ble_eq_true rfl) dX6_init_21 (fun H hw => ?_)
  obtain ⟨c5, e5⟩ : ∃ z : Nat → va_E, z = va_up c4 (o + 3) (.inl (E.2.1, 35, .inl fun _ => 0)) := ⟨_, rfl⟩
  have hw : WN E b (o + 4) c5 s H locs := by rw [e5]; exact hw
  have hc5 : c5 (o) = .inr (6, [.ref (b + (o + 1)), .ref (b + (o + 2)), .null, .int 0, .int 0, .int 0]) := by rw [e5, va_up_ne _ _ (by omega)]; exact hc4
  refine n_putF X hw 2 (by omega) hc5 in_X6 tyX6_ok nmX6 (show vwCl[6]? = some (RX6, TX6, 6) from rfl) (by decide) mw_108 rfl rfl hin rfl (ty := tyX6 2) (by decide +kernel) rfl rfl (Nat.le_of_ble_eq_true rfl) dX6_init_23 (fun H locs hw => ?_)
  obtain ⟨c6, e6⟩ : ∃ z : Nat → va_E, z = va_up c5 (o) (.inr (6, [.ref (b + (o + 1)), .ref (b + (o + 2)), .ref (b + (o + 3)), .int 0, .int 0, .int 0])) := ⟨_, rfl⟩
  have hw : WN E b (o + 4) c6 s H locs := by rw [e6]; exact hw
  have hc6 : c6 (o) = .inr (6, [.ref (b + (o + 1)), .ref (b + (o + 2)), .ref (b + (o + 3)), .int 0, .int 0, .int 0]) := by rw [e6, va_up_self]
  refine lv_aload_n hx hb dX6_init_26 rfl (lv_at hl 0 rfl) ?_
  refine lv_bipush (v := 12) hx hb dX6_init_27 (by decide) ?_
  refine n_put X hw 4 (by omega) hc6 in_X6 tyX6_ok nmX6 (show vwCl[6]? = some (RX6, TX6, 6) from rfl) (by decide) mw_115 rfl rfl (ty := tyX6 4) (by decide +kernel) rfl rfl (Nat.le_of_ble_eq_true rfl) dX6_init_29 (fun H locs hw => ?_)
  obtain ⟨c7, e7⟩ : ∃ z : Nat → va_E, z = va_up c6 (o) (.inr (6, [.ref (b + (o + 1)), .ref (b + (o + 2)), .ref (b + (o + 3)), .int 0, .int 12, .int 0])) := ⟨_, rfl⟩
  have hw : WN E b (o + 4) c7 s H locs := by rw [e7]; exact hw
  have hc7 : c7 (o) = .inr (6, [.ref (b + (o + 1)), .ref (b + (o + 2)), .ref (b + (o + 3)), .int 0, .int 12, .int 0]) := by rw [e7, va_up_self]
  refine nE (av := #[]) X hw (fun k k1 k2 => ?_) (fun k k1 => ?_) hr hlk dX6_init_32
  · rcases (show k = o ∨ k = o + 1 ∨ k = o + 2 ∨ k = o + 3 by omega) with rfl | rfl | rfl | rfl
    · rw [hc7]; exact (C0h_X6 E b h0).symm
    · rw [show c7 (o + 1) = .inl (E.2.1, 5, .inl fun _ => 0) by simp [e7, e6, e5, e4, e3, e2, e1, va_up]]; exact (C0c_X6_1 E b h0).symm
    · rw [show c7 (o + 2) = .inl (E.2.1, 5, .inl fun _ => 0) by simp [e7, e6, e5, e4, e3, e2, e1, va_up]]; exact (C0c_X6_2 E b h0).symm
    · rw [show c7 (o + 3) = .inl (E.2.1, 35, .inl fun _ => 0) by simp [e7, e6, e5, e4, e3, e2, e1, va_up]]; exact (C0c_X6_3 E b h0).symm
  · rw [e7, va_up_ne _ _ (by omega), e6, va_up_ne _ _ (by omega), e5, va_up_ne _ _ (by omega), e4, va_up_ne _ _ (by omega), e3, va_up_ne _ _ (by omega), e2, va_up_ne _ _ (by omega), e1, va_up_ne _ _ (by omega)]
theorem iv_X1 {o : Nat} (h : (kd o).1 = 3) : iv o = 0 := (show ∀ o, o < 212 → (kd o).1 = 3 → iv o = 0 by decide +kernel) o (kd_lt (by rw [h]; decide)) h
theorem ir_X1_1 {o : Nat} (h : (kd o).1 = 3) : iv (o + 1) = 0 := (show ∀ o, o < 212 → (kd o).1 = 3 → iv (o + 1) = 0 by decide +kernel) o (kd_lt (by rw [h]; decide)) h
theorem ir_X1_2 {o : Nat} (h : (kd o).1 = 3) : iv (o + 2) = 1 := (show ∀ o, o < 212 → (kd o).1 = 3 → iv (o + 2) = 1 by decide +kernel) o (kd_lt (by rw [h]; decide)) h
theorem ir_X1_3 {o : Nat} (h : (kd o).1 = 3) : iv (o + 3) = 0 := (show ∀ o, o < 212 → (kd o).1 = 3 → iv (o + 3) = 0 by decide +kernel) o (kd_lt (by rw [h]; decide)) h
theorem ir_X1_4 {o : Nat} (h : (kd o).1 = 3) : iv (o + 4) = 0 := (show ∀ o, o < 212 → (kd o).1 = 3 → iv (o + 4) = 0 by decide +kernel) o (kd_lt (by rw [h]; decide)) h
theorem C0h_X1 (E : EE) (b : Nat) {o : Nat} (h0 : (kd o).1 = 3) : C0 E b (o) = .inr (1, [.ref (b + (o + 1)), .ref (b + (o + 2)), .ref (b + (o + 3)), .ref (b + (o + 4)), .int 0, .int 0]) := by rw [C0, ce_X1 E _ _ _ _ h0]; simp [MC0, MM0, iv_X1 h0]
theorem C0c_X1_1 (E : EE) (b : Nat) {o : Nat} (h0 : (kd o).1 = 3) : C0 E b (o + 1) = .inl (E.2.1, 5, .inl fun _ => 0) := C0_0 E b (kr_X1_0 h0) (ir_X1_1 h0)
theorem C0c_X1_2 (E : EE) (b : Nat) {o : Nat} (h0 : (kd o).1 = 3) : C0 E b (o + 2) = .inl (E.2.1, 5, .inl fun _ => (-9)) := C0_1 E b (kr_X1_1 h0) (ir_X1_2 h0)
theorem C0c_X1_3 (E : EE) (b : Nat) {o : Nat} (h0 : (kd o).1 = 3) : C0 E b (o + 3) = .inl (E.2.1, 60, .inl fun _ => 0) := C0_0 E b (kr_X1_2 h0) (ir_X1_3 h0)
theorem C0c_X1_4 (E : EE) (b : Nat) {o : Nat} (h0 : (kd o).1 = 3) : C0 E b (o + 4) = .inl (E.2.1, 40, .inl fun _ => 0) := C0_0 E b (kr_X1_3 h0) (ir_X1_4 h0)
abbrev rmX1_init : Room := { frames := 1, cells := 4, slots := 110, locals := 23 }
theorem hd_X1_init : Hd yX1_init RX1 0 := by decide +kernel
set_option maxHeartbeats 4000000 in
set_option maxRecDepth 100000 in
theorem cn_X1_init (l : Launch) (E : EE) (b : Nat) {o : Nat} (h0 : (kd o).1 = 3) {c : Nat → va_E} (hc0 : c o = .inr (1, [.null, .null, .null, .null, .int 0, .int 0])) : Met l yX1_init (.code yX1_init cX1_init 1 none :: wt) rmX1_init (va_Pc [.ref (b + o)] (PN E b (o + 1) c)) (NQ E b (o + 1) 5 (C0 E b) o c) 4 110 (AA b) := by
  refine Met.ofW (cc := cX1_init) (maxL := 1) (ret := none) (by decide) rfl ?_
  intro p e s m args below meth c0' s₁ B hml hv
  obtain ⟨rfl, hP, hz, hK⟩ := hv
  have hx := B.exec
  have hb := B.bytes
  have X : CN E p s m _ c0' cX1_init 1 RX1 := ⟨hx, hb, hml, findClass_of_methodNamed B.named, fun w h => atoms_spec (ws := _ :: wt) B.pre w (List.mem_cons_of_mem _ h), hK⟩
  have hr := B.returns
  have hlk := B.notSynchronized
  have hin : meth.name = "<init>" := (name_of_methodNamed B.named B.method).1
  have hw : WN E b (o + 1) c s s.heap [] := ⟨hP, hz, va_S.rf⟩
  have hl := lv_entry ([.ref (b + o)]) (n := 1) (Nat.le_of_ble_eq_true rfl)
  rw [lg_entry_eq]
  generalize (lg_sl ([.ref (b + o)]) ++ List.replicate (1 - (lg_sl ([.ref (b + o)])).length) Slot.unset).toArray = ls at hl ⊢
  have hl : lv_has ls 1 [(0, .ref (b + o))] := hl
  obtain ⟨H, hH⟩ : ∃ H, H = s.heap := ⟨_, rfl⟩
  obtain ⟨locs, hL⟩ : ∃ L : List Loc, L = [] := ⟨_, rfl⟩
  rw [← hH, ← hL] at hw
  suffices hg : W p l e rmX1_init s m _ below meth c0' H locs 0 0 (MQ below (NQ E b (o + 1) 5 (C0 E b) o c) _ s 4 110 (AA b)) (F0 m 0 ls []) by rw [hH, hL] at hg; exact hg
  clear hH hL
  refine lv_aload_n hx hb dX1_init_0 rfl (lv_at hl 0 rfl) ?_
  refine n_obj X mw_174 mw_71 mw_72 hl.1 dX1_init_1 (Nat.le_of_ble_eq_true rfl) (Nat.le_of_ble_eq_true rfl) ?_
  refine lv_aload_n hx hb dX1_init_4 rfl (lv_at hl 0 rfl) ?_
  refine lv_iconst (v := 5) hx hb dX1_init_5 (by decide) ?_
  refine n_newi X hw mw_95 (by decide) (show (5 : Int32).toNatClampNeg = 5 by decide) (by decide) (Nat.le_of_ble_eq_true rfl) (Nat.le_of_ble_eq_true rfl) dX1_init_6 (fun H hw => ?_)
  obtain ⟨c1, e1⟩ : ∃ z : Nat → va_E, z = va_up c (o + 1) (.inl (E.2.1, 5, .inl fun _ => 0)) := ⟨_, rfl⟩
  have hw : WN E b (o + 2) c1 s H locs := by rw [e1]; exact hw
  have hc1 : c1 (o) = .inr (1, [.null, .null, .null, .null, .int 0, .int 0]) := by rw [e1, va_up_ne _ _ (by omega)]; exact hc0
  refine n_putF X hw 0 (by omega) hc1 in_X1 tyX1_ok nmX1 (show vwCl[1]? = some (RX1, TX1, 6) from rfl) (by decide) mw_178 rfl rfl hin rfl (ty := tyX1 0) (by decide +kernel) rfl rfl (Nat.le_of_ble_eq_true rfl) dX1_init_8 (fun H locs hw => ?_)
  obtain ⟨c2, e2⟩ : ∃ z : Nat → va_E, z = va_up c1 (o) (.inr (1, [.ref (b + (o + 1)), .null, .null, .null, .int 0, .int 0])) := ⟨_, rfl⟩
  have hw : WN E b (o + 2) c2 s H locs := by rw [e2]; exact hw
  have hc2 : c2 (o) = .inr (1, [.ref (b + (o + 1)), .null, .null, .null, .int 0, .int 0]) := by rw [e2, va_up_self]
  refine lv_aload_n hx hb dX1_init_11 rfl (lv_at hl 0 rfl) ?_
  refine lv_iconst (v := 5) hx hb dX1_init_12 (by decide) ?_
  refine n_newi X hw mw_95 (by decide) (show (5 : Int32).toNatClampNeg = 5 by decide) (by decide) (Nat.le_of_ble_eq_true rfl) (Nat.le_of_ble_eq_true rfl) dX1_init_13 (fun H hw => ?_)
  obtain ⟨c3, e3⟩ : ∃ z : Nat → va_E, z = va_up c2 (o + 2) (.inl (E.2.1, 5, .inl fun _ => 0)) := ⟨_, rfl⟩
  have hw : WN E b (o + 3) c3 s H locs := by rw [e3]; exact hw
  have hc3 : c3 (o) = .inr (1, [.ref (b + (o + 1)), .null, .null, .null, .int 0, .int 0]) := by rw [e3, va_up_ne _ _ (by omega)]; exact hc2
  refine n_putF X hw 1 (by omega) hc3 in_X1 tyX1_ok nmX1 (show vwCl[1]? = some (RX1, TX1, 6) from rfl) (by decide) mw_182 rfl rfl hin rfl (ty := tyX1 1) (by decide +kernel) rfl rfl (Nat.le_of_ble_eq_true rfl) dX1_init_15 (fun H locs hw => ?_)
  obtain ⟨c4, e4⟩ : ∃ z : Nat → va_E, z = va_up c3 (o) (.inr (1, [.ref (b + (o + 1)), .ref (b + (o + 2)), .null, .null, .int 0, .int 0])) := ⟨_, rfl⟩
  have hw : WN E b (o + 3) c4 s H locs := by rw [e4]; exact hw
  have hc4 : c4 (o) = .inr (1, [.ref (b + (o + 1)), .ref (b + (o + 2)), .null, .null, .int 0, .int 0]) := by rw [e4, va_up_self]
  refine lv_aload_n hx hb dX1_init_18 rfl (lv_at hl 0 rfl) ?_
  refine lv_bipush (v := 60) hx hb dX1_init_19 (by decide) ?_
  refine n_newi X hw mw_95 (by decide) (show (60 : Int32).toNatClampNeg = 60 by decide) (by decide) (Nat.le_of_ble_eq_true rfl) (Nat.le_of_ble_eq_true rfl) dX1_init_21 (fun H hw => ?_)
  obtain ⟨c5, e5⟩ : ∃ z : Nat → va_E, z = va_up c4 (o + 3) (.inl (E.2.1, 60, .inl fun _ => 0)) := ⟨_, rfl⟩
  have hw : WN E b (o + 4) c5 s H locs := by rw [e5]; exact hw
  have hc5 : c5 (o) = .inr (1, [.ref (b + (o + 1)), .ref (b + (o + 2)), .null, .null, .int 0, .int 0]) := by rw [e5, va_up_ne _ _ (by omega)]; exact hc4
  refine n_putF X hw 2 (by omega) hc5 in_X1 tyX1_ok nmX1 (show vwCl[1]? = some (RX1, TX1, 6) from rfl) (by decide) mw_184 rfl rfl hin rfl (ty := tyX1 2) (by decide +kernel) rfl rfl (Nat.le_of_ble_eq_true rfl) dX1_init_23 (fun H locs hw => ?_)
  obtain ⟨c6, e6⟩ : ∃ z : Nat → va_E, z = va_up c5 (o) (.inr (1, [.ref (b + (o + 1)), .ref (b + (o + 2)), .ref (b + (o + 3)), .null, .int 0, .int 0])) := ⟨_, rfl⟩
  have hw : WN E b (o + 4) c6 s H locs := by rw [e6]; exact hw
  have hc6 : c6 (o) = .inr (1, [.ref (b + (o + 1)), .ref (b + (o + 2)), .ref (b + (o + 3)), .null, .int 0, .int 0]) := by rw [e6, va_up_self]
  refine lv_aload_n hx hb dX1_init_26 rfl (lv_at hl 0 rfl) ?_
  refine lv_bipush (v := 40) hx hb dX1_init_27 (by decide) ?_
  refine n_newi X hw mw_95 (by decide) (show (40 : Int32).toNatClampNeg = 40 by decide) (by decide) (Nat.le_of_ble_eq_true rfl) (Nat.le_of_ble_eq_true rfl) dX1_init_29 (fun H hw => ?_)
  obtain ⟨c7, e7⟩ : ∃ z : Nat → va_E, z = va_up c6 (o + 4) (.inl (E.2.1, 40, .inl fun _ => 0)) := ⟨_, rfl⟩
  have hw : WN E b (o + 5) c7 s H locs := by rw [e7]; exact hw
  have hc7 : c7 (o) = .inr (1, [.ref (b + (o + 1)), .ref (b + (o + 2)), .ref (b + (o + 3)), .null, .int 0, .int 0]) := by rw [e7, va_up_ne _ _ (by omega)]; exact hc6
  refine n_putF X hw 3 (by omega) hc7 in_X1 tyX1_ok nmX1 (show vwCl[1]? = some (RX1, TX1, 6) from rfl) (by decide) mw_185 rfl rfl hin rfl (ty := tyX1 3) (by decide +kernel) rfl rfl (Nat.le_of_ble_eq_true rfl) dX1_init_31 (fun H locs hw => ?_)
  obtain ⟨c8, e8⟩ : ∃ z : Nat → va_E, z = va_up c7 (o) (.inr (1, [.ref (b + (o + 1)), .ref (b + (o + 2)), .ref (b + (o + 3)), .ref (b + (o + 4)), .int 0, .int 0])) := ⟨_, rfl⟩
  have hw : WN E b (o + 5) c8 s H locs := by rw [e8]; exact hw
  have hc8 : c8 (o) = .inr (1, [.ref (b + (o + 1)), .ref (b + (o + 2)), .ref (b + (o + 3)), .ref (b + (o + 4)), .int 0, .int 0]) := by rw [e8, va_up_self]
  refine lv_aload_n hx hb dX1_init_34 rfl (lv_at hl 0 rfl) ?_
  refine n_get X hw 1 (by omega) hc8 in_X1 (show vwCl[1]? = some (RX1, TX1, 6) from rfl) (by decide) mw_182 rfl rfl dX1_init_35 ?_
  refine lv_bipush (v := (-9)) hx hb dX1_init_38 (by decide) ?_
  have hq : c8 (o + 2) = .inl (E.2.1, 5, .inl fun _ => 0) := by simp [e8, e7, e6, e5, e4, e3, e2, e1, va_up]
  refine n_fill X hw (by omega) (by decide) hq ⟨mw_175, mw_176, mw_58, mw_177⟩ ⟨Nat.le_of_ble_eq_true rfl, Nat.le_of_ble_eq_true rfl, rfl, rfl⟩ hl.1 (Nat.le_of_ble_eq_true rfl) dX1_init_40 ⟨Nat.le_of_ble_eq_true rfl, Nat.le_of_ble_eq_true rfl⟩ (fun H locs hw => ?_)
  obtain ⟨c9, e9⟩ : ∃ z : Nat → va_E, z = va_up c8 (o + 2) (.inl (E.2.1, 5, .inl fun _ => (-9))) := ⟨_, rfl⟩
  have hw : WN E b (o + 5) c9 s H locs := by rw [e9]; exact hw
  have hc9 : c9 (o) = .inr (1, [.ref (b + (o + 1)), .ref (b + (o + 2)), .ref (b + (o + 3)), .ref (b + (o + 4)), .int 0, .int 0]) := by rw [e9, va_up_ne _ _ (by omega)]; exact hc8
  refine nE (av := #[]) X hw (fun k k1 k2 => ?_) (fun k k1 => ?_) hr hlk dX1_init_43
  · rcases (show k = o ∨ k = o + 1 ∨ k = o + 2 ∨ k = o + 3 ∨ k = o + 4 by omega) with rfl | rfl | rfl | rfl | rfl
    · rw [hc9]; exact (C0h_X1 E b h0).symm
    · rw [show c9 (o + 1) = .inl (E.2.1, 5, .inl fun _ => 0) by simp [e9, e8, e7, e6, e5, e4, e3, e2, e1, va_up]]; exact (C0c_X1_1 E b h0).symm
    · rw [show c9 (o + 2) = .inl (E.2.1, 5, .inl fun _ => (-9)) by simp [e9, e8, e7, e6, e5, e4, e3, e2, e1, va_up]]; exact (C0c_X1_2 E b h0).symm
    · rw [show c9 (o + 3) = .inl (E.2.1, 60, .inl fun _ => 0) by simp [e9, e8, e7, e6, e5, e4, e3, e2, e1, va_up]]; exact (C0c_X1_3 E b h0).symm
    · rw [show c9 (o + 4) = .inl (E.2.1, 40, .inl fun _ => 0) by simp [e9, e8, e7, e6, e5, e4, e3, e2, e1, va_up]]; exact (C0c_X1_4 E b h0).symm
  · rw [e9, va_up_ne _ _ (by omega), e8, va_up_ne _ _ (by omega), e7, va_up_ne _ _ (by omega), e6, va_up_ne _ _ (by omega), e5, va_up_ne _ _ (by omega), e4, va_up_ne _ _ (by omega), e3, va_up_ne _ _ (by omega), e2, va_up_ne _ _ (by omega), e1, va_up_ne _ _ (by omega)]
theorem C0h_X0 (E : EE) (b : Nat) : C0 E b (181) = .inr (0, [.ref (b + (182)), .ref (b + (183)), .ref (b + (184)), .int 0, .int 0]) := by rw [C0, ce_X0 E _ _ _ _ kk_181]; simp [MC0, MM0, show iv 181 = 0 by decide]
theorem C0c_X0_1 (E : EE) (b : Nat) : C0 E b (182) = .inl (E.2.1, 4, .inl fun _ => 0) := C0_0 E b kdv_182 (by decide)
theorem C0c_X0_2 (E : EE) (b : Nat) : C0 E b (183) = .inl (E.2.1, 4, .inl fun _ => 0) := C0_0 E b kdv_183 (by decide)
theorem C0c_X0_3 (E : EE) (b : Nat) : C0 E b (184) = .inl (E.2.1, 4, .inl fun _ => 0) := C0_0 E b kdv_184 (by decide)
abbrev rmX0_init : Room := { frames := 1, cells := 3, slots := 12, locals := 12 }
theorem hd_X0_init : Hd yX0_init RX0 0 := by decide +kernel
set_option maxHeartbeats 4000000 in
set_option maxRecDepth 100000 in
theorem cn_X0_init (l : Launch) (E : EE) (b : Nat) {c : Nat → va_E} (hc0 : c 181 = .inr (0, [.null, .null, .null, .int 0, .int 0])) : Met l yX0_init (.code yX0_init cX0_init 1 none :: wt) rmX0_init (va_Pc [.ref (b + 181)] (PN E b (182) c)) (NQ E b (182) 4 (C0 E b) 181 c) 3 12 (AA b) := by
  refine Met.ofW (cc := cX0_init) (maxL := 1) (ret := none) (by decide) rfl ?_
  intro p e s m args below meth c0' s₁ B hml hv
  obtain ⟨rfl, hP, hz, hK⟩ := hv
  have hx := B.exec
  have hb := B.bytes
  have X : CN E p s m _ c0' cX0_init 1 RX0 := ⟨hx, hb, hml, findClass_of_methodNamed B.named, fun w h => atoms_spec (ws := _ :: wt) B.pre w (List.mem_cons_of_mem _ h), hK⟩
  have hr := B.returns
  have hlk := B.notSynchronized
  have hin : meth.name = "<init>" := (name_of_methodNamed B.named B.method).1
  have hw : WN E b (182) c s s.heap [] := ⟨hP, hz, va_S.rf⟩
  have hl := lv_entry ([.ref (b + 181)]) (n := 1) (Nat.le_of_ble_eq_true rfl)
  rw [lg_entry_eq]
  generalize (lg_sl ([.ref (b + 181)]) ++ List.replicate (1 - (lg_sl ([.ref (b + 181)])).length) Slot.unset).toArray = ls at hl ⊢
  have hl : lv_has ls 1 [(0, .ref (b + 181))] := hl
  obtain ⟨H, hH⟩ : ∃ H, H = s.heap := ⟨_, rfl⟩
  obtain ⟨locs, hL⟩ : ∃ L : List Loc, L = [] := ⟨_, rfl⟩
  rw [← hH, ← hL] at hw
  suffices hg : W p l e rmX0_init s m _ below meth c0' H locs 0 0 (MQ below (NQ E b (182) 4 (C0 E b) 181 c) _ s 3 12 (AA b)) (F0 m 0 ls []) by rw [hH, hL] at hg; exact hg
  clear hH hL
  refine lv_aload_n hx hb dX0_init_0 rfl (lv_at hl 0 rfl) ?_
  refine n_obj X mw_222 mw_71 mw_72 hl.1 dX0_init_1 (Nat.le_of_ble_eq_true rfl) (Nat.le_of_ble_eq_true rfl) ?_
  refine lv_aload_n hx hb dX0_init_4 rfl (lv_at hl 0 rfl) ?_
  refine lv_iconst (v := 4) hx hb dX0_init_5 (by decide) ?_
  refine n_newi X hw mw_95 (by decide) (show (4 : Int32).toNatClampNeg = 4 by decide) (by decide) (Nat.le_of_ble_eq_true rfl) (Nat.le_of_ble_eq_true rfl) dX0_init_6 (fun H hw => ?_)
  obtain ⟨c1, e1⟩ : ∃ z : Nat → va_E, z = va_up c (182) (.inl (E.2.1, 4, .inl fun _ => 0)) := ⟨_, rfl⟩
  have hw : WN E b (183) c1 s H locs := by rw [e1]; exact hw
  have hc1 : c1 (181) = .inr (0, [.null, .null, .null, .int 0, .int 0]) := by rw [e1, va_up_ne _ _ (by omega)]; exact hc0
  refine n_putF X hw 0 (by omega) hc1 in_X0 tyX0_ok nmX0 (show vwCl[0]? = some (RX0, TX0, 5) from rfl) (by decide) mw_223 rfl rfl hin rfl (ty := tyX0 0) (by decide +kernel) rfl rfl (Nat.le_of_ble_eq_true rfl) dX0_init_8 (fun H locs hw => ?_)
  obtain ⟨c2, e2⟩ : ∃ z : Nat → va_E, z = va_up c1 (181) (.inr (0, [.ref (b + (182)), .null, .null, .int 0, .int 0])) := ⟨_, rfl⟩
  have hw : WN E b (183) c2 s H locs := by rw [e2]; exact hw
  have hc2 : c2 (181) = .inr (0, [.ref (b + (182)), .null, .null, .int 0, .int 0]) := by rw [e2, va_up_self]
  refine lv_aload_n hx hb dX0_init_11 rfl (lv_at hl 0 rfl) ?_
  refine lv_iconst (v := 4) hx hb dX0_init_12 (by decide) ?_
  refine n_newi X hw mw_95 (by decide) (show (4 : Int32).toNatClampNeg = 4 by decide) (by decide) (Nat.le_of_ble_eq_true rfl) (Nat.le_of_ble_eq_true rfl) dX0_init_13 (fun H hw => ?_)
  obtain ⟨c3, e3⟩ : ∃ z : Nat → va_E, z = va_up c2 (183) (.inl (E.2.1, 4, .inl fun _ => 0)) := ⟨_, rfl⟩
  have hw : WN E b (184) c3 s H locs := by rw [e3]; exact hw
  have hc3 : c3 (181) = .inr (0, [.ref (b + (182)), .null, .null, .int 0, .int 0]) := by rw [e3, va_up_ne _ _ (by omega)]; exact hc2
  refine n_putF X hw 1 (by omega) hc3 in_X0 tyX0_ok nmX0 (show vwCl[0]? = some (RX0, TX0, 5) from rfl) (by decide) mw_225 rfl rfl hin rfl (ty := tyX0 1) (by decide +kernel) rfl rfl (Nat.le_of_ble_eq_true rfl) dX0_init_15 (fun H locs hw => ?_)
  obtain ⟨c4, e4⟩ : ∃ z : Nat → va_E, z = va_up c3 (181) (.inr (0, [.ref (b + (182)), .ref (b + (183)), .null, .int 0, .int 0])) := ⟨_, rfl⟩
  have hw : WN E b (184) c4 s H locs := by rw [e4]; exact hw
  have hc4 : c4 (181) = .inr (0, [.ref (b + (182)), .ref (b + (183)), .null, .int 0, .int 0]) := by rw [e4, va_up_self]
  refine lv_aload_n hx hb dX0_init_18 rfl (lv_at hl 0 rfl) ?_
  refine lv_iconst (v := 4) hx hb dX0_init_19 (by decide) ?_
  refine n_newi X hw mw_95 (by decide) (show (4 : Int32).toNatClampNeg = 4 by decide) (by decide) (Nat.le_of_ble_eq_true rfl) (Nat.le_of_ble_eq_true rfl) dX0_init_20 (fun H hw => ?_)
  obtain ⟨c5, e5⟩ : ∃ z : Nat → va_E, z = va_up c4 (184) (.inl (E.2.1, 4, .inl fun _ => 0)) := ⟨_, rfl⟩
  have hw : WN E b (185) c5 s H locs := by rw [e5]; exact hw
  have hc5 : c5 (181) = .inr (0, [.ref (b + (182)), .ref (b + (183)), .null, .int 0, .int 0]) := by rw [e5, va_up_ne _ _ (by omega)]; exact hc4
  refine n_putF X hw 2 (by omega) hc5 in_X0 tyX0_ok nmX0 (show vwCl[0]? = some (RX0, TX0, 5) from rfl) (by decide) mw_227 rfl rfl hin rfl (ty := tyX0 2) (by decide +kernel) rfl rfl (Nat.le_of_ble_eq_true rfl) dX0_init_22 (fun H locs hw => ?_)
  obtain ⟨c6, e6⟩ : ∃ z : Nat → va_E, z = va_up c5 (181) (.inr (0, [.ref (b + (182)), .ref (b + (183)), .ref (b + (184)), .int 0, .int 0])) := ⟨_, rfl⟩
  have hw : WN E b (185) c6 s H locs := by rw [e6]; exact hw
  have hc6 : c6 (181) = .inr (0, [.ref (b + (182)), .ref (b + (183)), .ref (b + (184)), .int 0, .int 0]) := by rw [e6, va_up_self]
  refine nE (av := #[]) X hw (fun k k1 k2 => ?_) (fun k k1 => ?_) hr hlk dX0_init_25
  · rcases (show k = 181 ∨ k = 182 ∨ k = 183 ∨ k = 184 by omega) with rfl | rfl | rfl | rfl
    · rw [hc6]; exact (C0h_X0 E b).symm
    · rw [show c6 (182) = .inl (E.2.1, 4, .inl fun _ => 0) by simp [e6, e5, e4, e3, e2, e1, va_up]]; exact (C0c_X0_1 E b).symm
    · rw [show c6 (183) = .inl (E.2.1, 4, .inl fun _ => 0) by simp [e6, e5, e4, e3, e2, e1, va_up]]; exact (C0c_X0_2 E b).symm
    · rw [show c6 (184) = .inl (E.2.1, 4, .inl fun _ => 0) by simp [e6, e5, e4, e3, e2, e1, va_up]]; exact (C0c_X0_3 E b).symm
  · rw [e6, va_up_ne _ _ (by omega), e5, va_up_ne _ _ (by omega), e4, va_up_ne _ _ (by omega), e3, va_up_ne _ _ (by omega), e2, va_up_ne _ _ (by omega), e1, va_up_ne _ _ (by omega)]
theorem C0h_X3 (E : EE) (b : Nat) : C0 E b (185) = .inr (3, [.ref (b + (186)), .ref (b + (187)), .ref (b + (188)), .ref (b + (189)), .ref (b + (190)), .int 0, .int 0, .int 0]) := by rw [C0, ce_X3 E _ _ _ _ kk_185]; simp [MC0, MM0, show iv 185 = 5 by decide]
theorem C0c_X3_1 (E : EE) (b : Nat) : C0 E b (186) = .inl (E.2.1, 10, .inl fun _ => 0) := C0_0 E b kdv_186 (by decide)
theorem C0c_X3_2 (E : EE) (b : Nat) : C0 E b (187) = .inl (E.2.1, 10, .inl fun _ => 0) := C0_0 E b kdv_187 (by decide)
theorem C0c_X3_3 (E : EE) (b : Nat) : C0 E b (188) = .inl (E.2.1, 32, .inl fun _ => 0) := C0_0 E b kdv_188 (by decide)
theorem C0c_X3_4 (E : EE) (b : Nat) : C0 E b (189) = .inl (E.2.1, 13, .inl fun _ => 0) := C0_0 E b kdv_189 (by decide)
theorem C0c_X3_5 (E : EE) (b : Nat) : C0 E b (190) = .inl (E.2.1, 13, .inl fun _ => 0) := C0_0 E b kdv_190 (by decide)
abbrev rmX3_init : Room := { frames := 1, cells := 5, slots := 78, locals := 12 }
theorem hd_X3_init : Hd yX3_init RX3 0 := by decide +kernel
set_option maxHeartbeats 4000000 in
set_option maxRecDepth 100000 in
theorem cn_X3_init (l : Launch) (E : EE) (b : Nat) {c : Nat → va_E} (hc0 : c 185 = .inr (3, [.null, .null, .null, .null, .null, .int 0, .int 0, .int 0])) : Met l yX3_init (.code yX3_init cX3_init 1 none :: wt) rmX3_init (va_Pc [.ref (b + 185)] (PN E b (186) c)) (NQ E b (186) 6 (C0 E b) 185 c) 5 78 (AA b) := by
  refine Met.ofW (cc := cX3_init) (maxL := 1) (ret := none) (by decide) rfl ?_
  intro p e s m args below meth c0' s₁ B hml hv
  obtain ⟨rfl, hP, hz, hK⟩ := hv
  have hx := B.exec
  have hb := B.bytes
  have X : CN E p s m _ c0' cX3_init 1 RX3 := ⟨hx, hb, hml, findClass_of_methodNamed B.named, fun w h => atoms_spec (ws := _ :: wt) B.pre w (List.mem_cons_of_mem _ h), hK⟩
  have hr := B.returns
  have hlk := B.notSynchronized
  have hin : meth.name = "<init>" := (name_of_methodNamed B.named B.method).1
  have hw : WN E b (186) c s s.heap [] := ⟨hP, hz, va_S.rf⟩
  have hl := lv_entry ([.ref (b + 185)]) (n := 1) (Nat.le_of_ble_eq_true rfl)
  rw [lg_entry_eq]
  generalize (lg_sl ([.ref (b + 185)]) ++ List.replicate (1 - (lg_sl ([.ref (b + 185)])).length) Slot.unset).toArray = ls at hl ⊢
  have hl : lv_has ls 1 [(0, .ref (b + 185))] := hl
  obtain ⟨H, hH⟩ : ∃ H, H = s.heap := ⟨_, rfl⟩
  obtain ⟨locs, hL⟩ : ∃ L : List Loc, L = [] := ⟨_, rfl⟩
  rw [← hH, ← hL] at hw
  suffices hg : W p l e rmX3_init s m _ below meth c0' H locs 0 0 (MQ below (NQ E b (186) 6 (C0 E b) 185 c) _ s 5 78 (AA b)) (F0 m 0 ls []) by rw [hH, hL] at hg; exact hg
  clear hH hL
  refine lv_aload_n hx hb dX3_init_0 rfl (lv_at hl 0 rfl) ?_
  refine n_obj X mw_250 mw_71 mw_72 hl.1 dX3_init_1 (Nat.le_of_ble_eq_true rfl) (Nat.le_of_ble_eq_true rfl) ?_
  refine lv_aload_n hx hb dX3_init_4 rfl (lv_at hl 0 rfl) ?_
  refine lv_bipush (v := 10) hx hb dX3_init_5 (by decide) ?_
  refine n_newi X hw mw_95 (by decide) (show (10 : Int32).toNatClampNeg = 10 by decide) (by decide) (Nat.le_of_ble_eq_true rfl) (Nat.le_of_ble_eq_true rfl) dX3_init_7 (fun H hw => ?_)
  obtain ⟨c1, e1⟩ : ∃ z : Nat → va_E, z = va_up c (186) (.inl (E.2.1, 10, .inl fun _ => 0)) := ⟨_, rfl⟩
  have hw : WN E b (187) c1 s H locs := by rw [e1]; exact hw
  have hc1 : c1 (185) = .inr (3, [.null, .null, .null, .null, .null, .int 0, .int 0, .int 0]) := by rw [e1, va_up_ne _ _ (by omega)]; exact hc0
  refine n_putF X hw 0 (by omega) hc1 in_X3 tyX3_ok nmX3 (show vwCl[3]? = some (RX3, TX3, 8) from rfl) (by decide) mw_251 rfl rfl hin rfl (ty := tyX3 0) (by decide +kernel) rfl rfl (Nat.le_of_ble_eq_true rfl) dX3_init_9 (fun H locs hw => ?_)
  obtain ⟨c2, e2⟩ : ∃ z : Nat → va_E, z = va_up c1 (185) (.inr (3, [.ref (b + (186)), .null, .null, .null, .null, .int 0, .int 0, .int 0])) := ⟨_, rfl⟩
  have hw : WN E b (187) c2 s H locs := by rw [e2]; exact hw
  have hc2 : c2 (185) = .inr (3, [.ref (b + (186)), .null, .null, .null, .null, .int 0, .int 0, .int 0]) := by rw [e2, va_up_self]
  refine lv_aload_n hx hb dX3_init_12 rfl (lv_at hl 0 rfl) ?_
  refine lv_bipush (v := 10) hx hb dX3_init_13 (by decide) ?_
  refine n_newi X hw mw_95 (by decide) (show (10 : Int32).toNatClampNeg = 10 by decide) (by decide) (Nat.le_of_ble_eq_true rfl) (Nat.le_of_ble_eq_true rfl) dX3_init_15 (fun H hw => ?_)
  obtain ⟨c3, e3⟩ : ∃ z : Nat → va_E, z = va_up c2 (187) (.inl (E.2.1, 10, .inl fun _ => 0)) := ⟨_, rfl⟩
  have hw : WN E b (188) c3 s H locs := by rw [e3]; exact hw
  have hc3 : c3 (185) = .inr (3, [.ref (b + (186)), .null, .null, .null, .null, .int 0, .int 0, .int 0]) := by rw [e3, va_up_ne _ _ (by omega)]; exact hc2
  refine n_putF X hw 1 (by omega) hc3 in_X3 tyX3_ok nmX3 (show vwCl[3]? = some (RX3, TX3, 8) from rfl) (by decide) mw_252 rfl rfl hin rfl (ty := tyX3 1) (by decide +kernel) rfl rfl (Nat.le_of_ble_eq_true rfl) dX3_init_17 (fun H locs hw => ?_)
  obtain ⟨c4, e4⟩ : ∃ z : Nat → va_E, z = va_up c3 (185) (.inr (3, [.ref (b + (186)), .ref (b + (187)), .null, .null, .null, .int 0, .int 0, .int 0])) := ⟨_, rfl⟩
  have hw : WN E b (188) c4 s H locs := by rw [e4]; exact hw
  have hc4 : c4 (185) = .inr (3, [.ref (b + (186)), .ref (b + (187)), .null, .null, .null, .int 0, .int 0, .int 0]) := by rw [e4, va_up_self]
  refine lv_aload_n hx hb dX3_init_20 rfl (lv_at hl 0 rfl) ?_
  refine lv_bipush (v := 32) hx hb dX3_init_21 (by decide) ?_
  refine n_newi X hw mw_95 (by decide) (show (32 : Int32).toNatClampNeg = 32 by decide) (by decide) (Nat.le_of_ble_eq_true rfl) (Nat.le_of_ble_eq_true rfl) dX3_init_23 (fun H hw => ?_)
  obtain ⟨c5, e5⟩ : ∃ z : Nat → va_E, z = va_up c4 (188) (.inl (E.2.1, 32, .inl fun _ => 0)) := ⟨_, rfl⟩
  have hw : WN E b (189) c5 s H locs := by rw [e5]; exact hw
  have hc5 : c5 (185) = .inr (3, [.ref (b + (186)), .ref (b + (187)), .null, .null, .null, .int 0, .int 0, .int 0]) := by rw [e5, va_up_ne _ _ (by omega)]; exact hc4
  refine n_putF X hw 2 (by omega) hc5 in_X3 tyX3_ok nmX3 (show vwCl[3]? = some (RX3, TX3, 8) from rfl) (by decide) mw_253 rfl rfl hin rfl (ty := tyX3 2) (by decide +kernel) rfl rfl (Nat.le_of_ble_eq_true rfl) dX3_init_25 (fun H locs hw => ?_)
  obtain ⟨c6, e6⟩ : ∃ z : Nat → va_E, z = va_up c5 (185) (.inr (3, [.ref (b + (186)), .ref (b + (187)), .ref (b + (188)), .null, .null, .int 0, .int 0, .int 0])) := ⟨_, rfl⟩
  have hw : WN E b (189) c6 s H locs := by rw [e6]; exact hw
  have hc6 : c6 (185) = .inr (3, [.ref (b + (186)), .ref (b + (187)), .ref (b + (188)), .null, .null, .int 0, .int 0, .int 0]) := by rw [e6, va_up_self]
  refine lv_aload_n hx hb dX3_init_28 rfl (lv_at hl 0 rfl) ?_
  refine lv_bipush (v := 13) hx hb dX3_init_29 (by decide) ?_
  refine n_newi X hw mw_95 (by decide) (show (13 : Int32).toNatClampNeg = 13 by decide) (by decide) (Nat.le_of_ble_eq_true rfl) (Nat.le_of_ble_eq_true rfl) dX3_init_31 (fun H hw => ?_)
  obtain ⟨c7, e7⟩ : ∃ z : Nat → va_E, z = va_up c6 (189) (.inl (E.2.1, 13, .inl fun _ => 0)) := ⟨_, rfl⟩
  have hw : WN E b (190) c7 s H locs := by rw [e7]; exact hw
  have hc7 : c7 (185) = .inr (3, [.ref (b + (186)), .ref (b + (187)), .ref (b + (188)), .null, .null, .int 0, .int 0, .int 0]) := by rw [e7, va_up_ne _ _ (by omega)]; exact hc6
  refine n_put X hw 3 (by omega) hc7 in_X3 tyX3_ok nmX3 (show vwCl[3]? = some (RX3, TX3, 8) from rfl) (by decide) mw_254 rfl rfl (ty := tyX3 3) (by decide +kernel) rfl rfl (Nat.le_of_ble_eq_true rfl) dX3_init_33 (fun H locs hw => ?_)
  obtain ⟨c8, e8⟩ : ∃ z : Nat → va_E, z = va_up c7 (185) (.inr (3, [.ref (b + (186)), .ref (b + (187)), .ref (b + (188)), .ref (b + (189)), .null, .int 0, .int 0, .int 0])) := ⟨_, rfl⟩
  have hw : WN E b (190) c8 s H locs := by rw [e8]; exact hw
  have hc8 : c8 (185) = .inr (3, [.ref (b + (186)), .ref (b + (187)), .ref (b + (188)), .ref (b + (189)), .null, .int 0, .int 0, .int 0]) := by rw [e8, va_up_self]
  refine lv_aload_n hx hb dX3_init_36 rfl (lv_at hl 0 rfl) ?_
  refine lv_bipush (v := 13) hx hb dX3_init_37 (by decide) ?_
  refine n_newi X hw mw_95 (by decide) (show (13 : Int32).toNatClampNeg = 13 by decide) (by decide) (Nat.le_of_ble_eq_true rfl) (Nat.le_of_ble_eq_true rfl) dX3_init_39 (fun H hw => ?_)
  obtain ⟨c9, e9⟩ : ∃ z : Nat → va_E, z = va_up c8 (190) (.inl (E.2.1, 13, .inl fun _ => 0)) := ⟨_, rfl⟩
  have hw : WN E b (191) c9 s H locs := by rw [e9]; exact hw
  have hc9 : c9 (185) = .inr (3, [.ref (b + (186)), .ref (b + (187)), .ref (b + (188)), .ref (b + (189)), .null, .int 0, .int 0, .int 0]) := by rw [e9, va_up_ne _ _ (by omega)]; exact hc8
  refine n_put X hw 4 (by omega) hc9 in_X3 tyX3_ok nmX3 (show vwCl[3]? = some (RX3, TX3, 8) from rfl) (by decide) mw_255 rfl rfl (ty := tyX3 4) (by decide +kernel) rfl rfl (Nat.le_of_ble_eq_true rfl) dX3_init_41 (fun H locs hw => ?_)
  obtain ⟨c10, e10⟩ : ∃ z : Nat → va_E, z = va_up c9 (185) (.inr (3, [.ref (b + (186)), .ref (b + (187)), .ref (b + (188)), .ref (b + (189)), .ref (b + (190)), .int 0, .int 0, .int 0])) := ⟨_, rfl⟩
  have hw : WN E b (191) c10 s H locs := by rw [e10]; exact hw
  have hc10 : c10 (185) = .inr (3, [.ref (b + (186)), .ref (b + (187)), .ref (b + (188)), .ref (b + (189)), .ref (b + (190)), .int 0, .int 0, .int 0]) := by rw [e10, va_up_self]
  refine nE (av := #[]) X hw (fun k k1 k2 => ?_) (fun k k1 => ?_) hr hlk dX3_init_44
  · rcases (show k = 185 ∨ k = 186 ∨ k = 187 ∨ k = 188 ∨ k = 189 ∨ k = 190 by omega) with rfl | rfl | rfl | rfl | rfl | rfl
    · rw [hc10]; exact (C0h_X3 E b).symm
    · rw [show c10 (186) = .inl (E.2.1, 10, .inl fun _ => 0) by simp [e10, e9, e8, e7, e6, e5, e4, e3, e2, e1, va_up]]; exact (C0c_X3_1 E b).symm
    · rw [show c10 (187) = .inl (E.2.1, 10, .inl fun _ => 0) by simp [e10, e9, e8, e7, e6, e5, e4, e3, e2, e1, va_up]]; exact (C0c_X3_2 E b).symm
    · rw [show c10 (188) = .inl (E.2.1, 32, .inl fun _ => 0) by simp [e10, e9, e8, e7, e6, e5, e4, e3, e2, e1, va_up]]; exact (C0c_X3_3 E b).symm
    · rw [show c10 (189) = .inl (E.2.1, 13, .inl fun _ => 0) by simp [e10, e9, e8, e7, e6, e5, e4, e3, e2, e1, va_up]]; exact (C0c_X3_4 E b).symm
    · rw [show c10 (190) = .inl (E.2.1, 13, .inl fun _ => 0) by simp [e10, e9, e8, e7, e6, e5, e4, e3, e2, e1, va_up]]; exact (C0c_X3_5 E b).symm
  · rw [e10, va_up_ne _ _ (by omega), e9, va_up_ne _ _ (by omega), e8, va_up_ne _ _ (by omega), e7, va_up_ne _ _ (by omega), e6, va_up_ne _ _ (by omega), e5, va_up_ne _ _ (by omega), e4, va_up_ne _ _ (by omega), e3, va_up_ne _ _ (by omega), e2, va_up_ne _ _ (by omega), e1, va_up_ne _ _ (by omega)]
theorem C0h_X8 (E : EE) (b : Nat) : C0 E b (197) = .inr (8, [.int 0, .ref (b + (198)), .ref (b + (199)), .ref (b + (200)), .int 12, .ref (b + (201)), .ref (b + (202)), .ref (b + (203)), .int 0, .ref (b + (204)), .int 0, .ref (b + (205)), .long 0, .ref (b + (206)), .int 0, .int 0, .int 0, .int 0, .int 0, .int 0, .int 0, .int 0, .ref (b + (207)), .ref (b + (208)), .ref (b + (209)), .int 0, .int 0, .ref (b + (210)), .int 0, .int 0, .ref (b + (211))]) := by rw [C0, ce_X8 E _ _ _ _ kk_197]; simp [MC0, MM0, show iv 197 = 0 by decide]
theorem C0c_X8_1 (E : EE) (b : Nat) : C0 E b (198) = .inl (E.2.1, 5, .inl fun _ => 0) := by rw [C0, ce_14 E _ _ _ _ kdv_198, show MM0 198 = fun _ => 0 by funext i; simp [MM0]]
theorem C0c_X8_2 (E : EE) (b : Nat) : C0 E b (199) = .inl (E.2.1, 5, .inl fun _ => 0) := by rw [C0, ce_14 E _ _ _ _ kdv_199, show MM0 199 = fun _ => 0 by funext i; simp [MM0]]
theorem C0c_X8_3 (E : EE) (b : Nat) : C0 E b (200) = .inl (E.2.1, 35, .inl fun _ => 0) := by rw [C0, ce_14 E _ _ _ _ kdv_200, show MM0 200 = fun _ => 0 by funext i; simp [MM0]]
theorem C0c_X8_4 (E : EE) (b : Nat) : C0 E b (201) = .inl (E.2.1, 1233, .inl fun _ => 0) := by rw [C0, ce_14 E _ _ _ _ kdv_201, show MM0 201 = fun _ => 0 by funext i; simp [MM0]]
theorem C0c_X8_5 (E : EE) (b : Nat) : C0 E b (202) = .inl (E.2.1, 2466, .inl fun _ => 0) := by rw [C0, ce_14 E _ _ _ _ kdv_202, show MM0 202 = fun _ => 0 by funext i; simp [MM0]]
theorem C0c_X8_6 (E : EE) (b : Nat) : C0 E b (203) = .inl (E.2.2.1, 2, .inl fun _ => 0) := by rw [C0, ce_15 E _ _ _ _ kdv_203, show MM0 203 = fun _ => 0 by funext i; simp [MM0]]
theorem C0c_X8_7 (E : EE) (b : Nat) : C0 E b (204) = .inl (E.2.1, 4, .inl fun _ => 0) := by rw [C0, ce_14 E _ _ _ _ kdv_204, show MM0 204 = fun _ => 0 by funext i; simp [MM0]]
theorem C0c_X8_8 (E : EE) (b : Nat) : C0 E b (205) = .inl (E.2.1, 8, .inl fun _ => 0) := by rw [C0, ce_14 E _ _ _ _ kdv_205, show MM0 205 = fun _ => 0 by funext i; simp [MM0]]
theorem C0c_X8_9 (E : EE) (b : Nat) : C0 E b (206) = .inl (E.2.1, 120, .inl fun _ => 0) := by rw [C0, ce_14 E _ _ _ _ kdv_206, show MM0 206 = fun _ => 0 by funext i; simp [MM0]]
theorem C0c_X8_10 (E : EE) (b : Nat) : C0 E b (207) = .inl (E.2.1, 5, .inl fun _ => 0) := by rw [C0, ce_14 E _ _ _ _ kdv_207, show MM0 207 = fun _ => 0 by funext i; simp [MM0]]
theorem C0c_X8_11 (E : EE) (b : Nat) : C0 E b (208) = .inl (E.2.1, 5, .inl fun _ => 0) := by rw [C0, ce_14 E _ _ _ _ kdv_208, show MM0 208 = fun _ => 0 by funext i; simp [MM0]]
theorem C0c_X8_12 (E : EE) (b : Nat) : C0 E b (209) = .inl (E.2.1, 35, .inl fun _ => 0) := by rw [C0, ce_14 E _ _ _ _ kdv_209, show MM0 209 = fun _ => 0 by funext i; simp [MM0]]
theorem C0c_X8_13 (E : EE) (b : Nat) : C0 E b (210) = .inl (E.2.1, 40, .inl fun _ => 0) := by rw [C0, ce_14 E _ _ _ _ kdv_210, show MM0 210 = fun _ => 0 by funext i; simp [MM0]]
theorem C0c_X8_14 (E : EE) (b : Nat) : C0 E b (211) = .inl (E.2.1, 10, .inl fun _ => 0) := by rw [C0, ce_14 E _ _ _ _ kdv_211, show MM0 211 = fun _ => 0 by funext i; simp [MM0]]
abbrev rmX8_init : Room := { frames := 1, cells := 14, slots := 3973, locals := 12 }
theorem hd_X8_init : Hd yX8_init RX8 0 := by decide +kernel
set_option maxHeartbeats 4000000 in
set_option maxRecDepth 100000 in
theorem cn_X8_init (l : Launch) (E : EE) (b : Nat) {c : Nat → va_E} (hc0 : c 197 = .inr (8, [.int 0, .null, .null, .null, .int 0, .null, .null, .null, .int 0, .null, .int 0, .null, .long 0, .null, .int 0, .int 0, .int 0, .int 0, .int 0, .int 0, .int 0, .int 0, .null, .null, .null, .int 0, .int 0, .null, .int 0, .int 0, .null])) : Met l yX8_init (.code yX8_init cX8_init 1 none :: wt) rmX8_init (va_Pc [.ref (b + 197)] (PN E b (198) c)) (NQ E b (198) 15 (C0 E b) 197 c) 14 3973 (AA b) := by
  refine Met.ofW (cc := cX8_init) (maxL := 1) (ret := none) (by decide) rfl ?_
  intro p e s m args below meth c0' s₁ B hml hv
  obtain ⟨rfl, hP, hz, hK⟩ := hv
  have hx := B.exec
  have hb := B.bytes
  have X : CN E p s m _ c0' cX8_init 1 RX8 := ⟨hx, hb, hml, findClass_of_methodNamed B.named, fun w h => atoms_spec (ws := _ :: wt) B.pre w (List.mem_cons_of_mem _ h), hK⟩
  have hr := B.returns
  have hlk := B.notSynchronized
  have hin : meth.name = "<init>" := (name_of_methodNamed B.named B.method).1
  have hw : WN E b (198) c s s.heap [] := ⟨hP, hz, va_S.rf⟩
  have hl := lv_entry ([.ref (b + 197)]) (n := 1) (Nat.le_of_ble_eq_true rfl)
  rw [lg_entry_eq]
  generalize (lg_sl ([.ref (b + 197)]) ++ List.replicate (1 - (lg_sl ([.ref (b + 197)])).length) Slot.unset).toArray = ls at hl ⊢
  have hl : lv_has ls 1 [(0, .ref (b + 197))] := hl
  obtain ⟨H, hH⟩ : ∃ H, H = s.heap := ⟨_, rfl⟩
  obtain ⟨locs, hL⟩ : ∃ L : List Loc, L = [] := ⟨_, rfl⟩
  rw [← hH, ← hL] at hw
  suffices hg : W p l e rmX8_init s m _ below meth c0' H locs 0 0 (MQ below (NQ E b (198) 15 (C0 E b) 197 c) _ s 14 3973 (AA b)) (F0 m 0 ls []) by rw [hH, hL] at hg; exact hg
  clear hH hL
  refine lv_aload_n hx hb dX8_init_0 rfl (lv_at hl 0 rfl) ?_
  refine n_obj X mw_720 mw_71 mw_72 hl.1 dX8_init_1 (Nat.le_of_ble_eq_true rfl) (Nat.le_of_ble_eq_true rfl) ?_
  refine lv_aload_n hx hb dX8_init_4 rfl (lv_at hl 0 rfl) ?_
  refine lv_iconst (v := 5) hx hb dX8_init_5 (by decide) ?_
  refine n_newi X hw mw_95 (by decide) (show (5 : Int32).toNatClampNeg = 5 by decide) (by decide) (Nat.le_of_ble_eq_true rfl) (Nat.le_of_ble_eq_true rfl) dX8_init_6 (fun H hw => ?_)
  obtain ⟨c1, e1⟩ : ∃ z : Nat → va_E, z = va_up c (198) (.inl (E.2.1, 5, .inl fun _ => 0)) := ⟨_, rfl⟩
  have hw : WN E b (199) c1 s H locs := by rw [e1]; exact hw
  have hc1 : c1 (197) = .inr (8, [.int 0, .null, .null, .null, .int 0, .null, .null, .null, .int 0, .null, .int 0, .null, .long 0, .null, .int 0, .int 0, .int 0, .int 0, .int 0, .int 0, .int 0, .int 0, .null, .null, .null, .int 0, .int 0, .null, .int 0, .int 0, .null]) := by rw [e1, va_up_ne _ _ (by omega)]; exact hc0
  refine n_putF X hw 1 (by omega) hc1 in_X8 tyX8_ok nmX8 (show vwCl[8]? = some (RX8, TX8, 31) from rfl) (by decide) mw_722 rfl rfl hin rfl (ty := tyX8 1) (by decide +kernel) rfl rfl (Nat.le_of_ble_eq_true rfl) dX8_init_8 (fun H locs hw => ?_)
  obtain ⟨c2, e2⟩ : ∃ z : Nat → va_E, z = va_up c1 (197) (.inr (8, [.int 0, .ref (b + (198)), .null, .null, .int 0, .null, .null, .null, .int 0, .null, .int 0, .null, .long 0, .null, .int 0, .int 0, .int 0, .int 0, .int 0, .int 0, .int 0, .int 0, .null, .null, .null, .int 0, .int 0, .null, .int 0, .int 0, .null])) := ⟨_, rfl⟩
  have hw : WN E b (199) c2 s H locs := by rw [e2]; exact hw
  have hc2 : c2 (197) = .inr (8, [.int 0, .ref (b + (198)), .null, .null, .int 0, .null, .null, .null, .int 0, .null, .int 0, .null, .long 0, .null, .int 0, .int 0, .int 0, .int 0, .int 0, .int 0, .int 0, .int 0, .null, .null, .null, .int 0, .int 0, .null, .int 0, .int 0, .null]) := by rw [e2, va_up_self]
  refine lv_aload_n hx hb dX8_init_11 rfl (lv_at hl 0 rfl) ?_
  refine lv_iconst (v := 5) hx hb dX8_init_12 (by decide) ?_
  refine n_newi X hw mw_95 (by decide) (show (5 : Int32).toNatClampNeg = 5 by decide) (by decide) (Nat.le_of_ble_eq_true rfl) (Nat.le_of_ble_eq_true rfl) dX8_init_13 (fun H hw => ?_)
  obtain ⟨c3, e3⟩ : ∃ z : Nat → va_E, z = va_up c2 (199) (.inl (E.2.1, 5, .inl fun _ => 0)) := ⟨_, rfl⟩
  have hw : WN E b (200) c3 s H locs := by rw [e3]; exact hw
  have hc3 : c3 (197) = .inr (8, [.int 0, .ref (b + (198)), .null, .null, .int 0, .null, .null, .null, .int 0, .null, .int 0, .null, .long 0, .null, .int 0, .int 0, .int 0, .int 0, .int 0, .int 0, .int 0, .int 0, .null, .null, .null, .int 0, .int 0, .null, .int 0, .int 0, .null]) := by rw [e3, va_up_ne _ _ (by omega)]; exact hc2
  refine n_putF X hw 2 (by omega) hc3 in_X8 tyX8_ok nmX8 (show vwCl[8]? = some (RX8, TX8, 31) from rfl) (by decide) mw_723 rfl rfl hin rfl (ty := tyX8 2) (by decide +kernel) rfl rfl (Nat.le_of_ble_eq_true rfl) dX8_init_15 (fun H locs hw => ?_)
  obtain ⟨c4, e4⟩ : ∃ z : Nat → va_E, z = va_up c3 (197) (.inr (8, [.int 0, .ref (b + (198)), .ref (b + (199)), .null, .int 0, .null, .null, .null, .int 0, .null, .int 0, .null, .long 0, .null, .int 0, .int 0, .int 0, .int 0, .int 0, .int 0, .int 0, .int 0, .null, .null, .null, .int 0, .int 0, .null, .int 0, .int 0, .null])) := ⟨_, rfl⟩
  have hw : WN E b (200) c4 s H locs := by rw [e4]; exact hw
  have hc4 : c4 (197) = .inr (8, [.int 0, .ref (b + (198)), .ref (b + (199)), .null, .int 0, .null, .null, .null, .int 0, .null, .int 0, .null, .long 0, .null, .int 0, .int 0, .int 0, .int 0, .int 0, .int 0, .int 0, .int 0, .null, .null, .null, .int 0, .int 0, .null, .int 0, .int 0, .null]) := by rw [e4, va_up_self]
  refine lv_aload_n hx hb dX8_init_18 rfl (lv_at hl 0 rfl) ?_
  refine lv_bipush (v := 35) hx hb dX8_init_19 (by decide) ?_
  refine n_newi X hw mw_95 (by decide) (show (35 : Int32).toNatClampNeg = 35 by decide) (by decide) (Nat.le_of_ble_eq_true rfl) (Nat.le_of_ble_eq_true rfl) dX8_init_21 (fun H hw => ?_)
  obtain ⟨c5, e5⟩ : ∃ z : Nat → va_E, z = va_up c4 (200) (.inl (E.2.1, 35, .inl fun _ => 0)) := ⟨_, rfl⟩
  have hw : WN E b (201) c5 s H locs := by rw [e5]; exact hw
  have hc5 : c5 (197) = .inr (8, [.int 0, .ref (b + (198)), .ref (b + (199)), .null, .int 0, .null, .null, .null, .int 0, .null, .int 0, .null, .long 0, .null, .int 0, .int 0, .int 0, .int 0, .int 0, .int 0, .int 0, .int 0, .null, .null, .null, .int 0, .int 0, .null, .int 0, .int 0, .null]) := by rw [e5, va_up_ne _ _ (by omega)]; exact hc4
  refine n_putF X hw 3 (by omega) hc5 in_X8 tyX8_ok nmX8 (show vwCl[8]? = some (RX8, TX8, 31) from rfl) (by decide) mw_724 rfl rfl hin rfl (ty := tyX8 3) (by decide +kernel) rfl rfl (Nat.le_of_ble_eq_true rfl) dX8_init_23 (fun H locs hw => ?_)
  obtain ⟨c6, e6⟩ : ∃ z : Nat → va_E, z = va_up c5 (197) (.inr (8, [.int 0, .ref (b + (198)), .ref (b + (199)), .ref (b + (200)), .int 0, .null, .null, .null, .int 0, .null, .int 0, .null, .long 0, .null, .int 0, .int 0, .int 0, .int 0, .int 0, .int 0, .int 0, .int 0, .null, .null, .null, .int 0, .int 0, .null, .int 0, .int 0, .null])) := ⟨_, rfl⟩
  have hw : WN E b (201) c6 s H locs := by rw [e6]; exact hw
  have hc6 : c6 (197) = .inr (8, [.int 0, .ref (b + (198)), .ref (b + (199)), .ref (b + (200)), .int 0, .null, .null, .null, .int 0, .null, .int 0, .null, .long 0, .null, .int 0, .int 0, .int 0, .int 0, .int 0, .int 0, .int 0, .int 0, .null, .null, .null, .int 0, .int 0, .null, .int 0, .int 0, .null]) := by rw [e6, va_up_self]
  refine lv_aload_n hx hb dX8_init_26 rfl (lv_at hl 0 rfl) ?_
  refine lv_bipush (v := 12) hx hb dX8_init_27 (by decide) ?_
  refine n_put X hw 4 (by omega) hc6 in_X8 tyX8_ok nmX8 (show vwCl[8]? = some (RX8, TX8, 31) from rfl) (by decide) mw_725 rfl rfl (ty := tyX8 4) (by decide +kernel) rfl rfl (Nat.le_of_ble_eq_true rfl) dX8_init_29 (fun H locs hw => ?_)
  obtain ⟨c7, e7⟩ : ∃ z : Nat → va_E, z = va_up c6 (197) (.inr (8, [.int 0, .ref (b + (198)), .ref (b + (199)), .ref (b + (200)), .int 12, .null, .null, .null, .int 0, .null, .int 0, .null, .long 0, .null, .int 0, .int 0, .int 0, .int 0, .int 0, .int 0, .int 0, .int 0, .null, .null, .null, .int 0, .int 0, .null, .int 0, .int 0, .null])) := ⟨_, rfl⟩
  have hw : WN E b (201) c7 s H locs := by rw [e7]; exact hw
  have hc7 : c7 (197) = .inr (8, [.int 0, .ref (b + (198)), .ref (b + (199)), .ref (b + (200)), .int 12, .null, .null, .null, .int 0, .null, .int 0, .null, .long 0, .null, .int 0, .int 0, .int 0, .int 0, .int 0, .int 0, .int 0, .int 0, .null, .null, .null, .int 0, .int 0, .null, .int 0, .int 0, .null]) := by rw [e7, va_up_self]
  refine lv_aload_n hx hb dX8_init_32 rfl (lv_at hl 0 rfl) ?_
  refine lv_sipush (v := 1233) hx hb dX8_init_33 (by decide) ?_
  refine n_newi X hw mw_95 (by decide) (show (1233 : Int32).toNatClampNeg = 1233 by decide) (by decide) (Nat.le_of_ble_eq_true rfl) (Nat.le_of_ble_eq_true rfl) dX8_init_36 (fun H hw => ?_)
  obtain ⟨c8, e8⟩ : ∃ z : Nat → va_E, z = va_up c7 (201) (.inl (E.2.1, 1233, .inl fun _ => 0)) := ⟨_, rfl⟩
  have hw : WN E b (202) c8 s H locs := by rw [e8]; exact hw
  have hc8 : c8 (197) = .inr (8, [.int 0, .ref (b + (198)), .ref (b + (199)), .ref (b + (200)), .int 12, .null, .null, .null, .int 0, .null, .int 0, .null, .long 0, .null, .int 0, .int 0, .int 0, .int 0, .int 0, .int 0, .int 0, .int 0, .null, .null, .null, .int 0, .int 0, .null, .int 0, .int 0, .null]) := by rw [e8, va_up_ne _ _ (by omega)]; exact hc7
  refine n_putF X hw 5 (by omega) hc8 in_X8 tyX8_ok nmX8 (show vwCl[8]? = some (RX8, TX8, 31) from rfl) (by decide) mw_726 rfl rfl hin rfl (ty := tyX8 5) (by decide +kernel) rfl rfl (Nat.le_of_ble_eq_true rfl) dX8_init_38 (fun H locs hw => ?_)
  obtain ⟨c9, e9⟩ : ∃ z : Nat → va_E, z = va_up c8 (197) (.inr (8, [.int 0, .ref (b + (198)), .ref (b + (199)), .ref (b + (200)), .int 12, .ref (b + (201)), .null, .null, .int 0, .null, .int 0, .null, .long 0, .null, .int 0, .int 0, .int 0, .int 0, .int 0, .int 0, .int 0, .int 0, .null, .null, .null, .int 0, .int 0, .null, .int 0, .int 0, .null])) := ⟨_, rfl⟩
  have hw : WN E b (202) c9 s H locs := by rw [e9]; exact hw
  have hc9 : c9 (197) = .inr (8, [.int 0, .ref (b + (198)), .ref (b + (199)), .ref (b + (200)), .int 12, .ref (b + (201)), .null, .null, .int 0, .null, .int 0, .null, .long 0, .null, .int 0, .int 0, .int 0, .int 0, .int 0, .int 0, .int 0, .int 0, .null, .null, .null, .int 0, .int 0, .null, .int 0, .int 0, .null]) := by rw [e9, va_up_self]
  refine lv_aload_n hx hb dX8_init_41 rfl (lv_at hl 0 rfl) ?_
  refine lv_sipush (v := 2466) hx hb dX8_init_42 (by decide) ?_
  refine n_newi X hw mw_95 (by decide) (show (2466 : Int32).toNatClampNeg = 2466 by decide) (by decide) (Nat.le_of_ble_eq_true rfl) (Nat.le_of_ble_eq_true rfl) dX8_init_45 (fun H hw => ?_)
  obtain ⟨c10, e10⟩ : ∃ z : Nat → va_E, z = va_up c9 (202) (.inl (E.2.1, 2466, .inl fun _ => 0)) := ⟨_, rfl⟩
  have hw : WN E b (203) c10 s H locs := by rw [e10]; exact hw
  have hc10 : c10 (197) = .inr (8, [.int 0, .ref (b + (198)), .ref (b + (199)), .ref (b + (200)), .int 12, .ref (b + (201)), .null, .null, .int 0, .null, .int 0, .null, .long 0, .null, .int 0, .int 0, .int 0, .int 0, .int 0, .int 0, .int 0, .int 0, .null, .null, .null, .int 0, .int 0, .null, .int 0, .int 0, .null]) := by rw [e10, va_up_ne _ _ (by omega)]; exact hc9
  refine n_putF X hw 6 (by omega) hc10 in_X8 tyX8_ok nmX8 (show vwCl[8]? = some (RX8, TX8, 31) from rfl) (by decide) mw_727 rfl rfl hin rfl (ty := tyX8 6) (by decide +kernel) rfl rfl (Nat.le_of_ble_eq_true rfl) dX8_init_47 (fun H locs hw => ?_)
  obtain ⟨c11, e11⟩ : ∃ z : Nat → va_E, z = va_up c10 (197) (.inr (8, [.int 0, .ref (b + (198)), .ref (b + (199)), .ref (b + (200)), .int 12, .ref (b + (201)), .ref (b + (202)), .null, .int 0, .null, .int 0, .null, .long 0, .null, .int 0, .int 0, .int 0, .int 0, .int 0, .int 0, .int 0, .int 0, .null, .null, .null, .int 0, .int 0, .null, .int 0, .int 0, .null])) := ⟨_, rfl⟩
  have hw : WN E b (203) c11 s H locs := by rw [e11]; exact hw
  have hc11 : c11 (197) = .inr (8, [.int 0, .ref (b + (198)), .ref (b + (199)), .ref (b + (200)), .int 12, .ref (b + (201)), .ref (b + (202)), .null, .int 0, .null, .int 0, .null, .long 0, .null, .int 0, .int 0, .int 0, .int 0, .int 0, .int 0, .int 0, .int 0, .null, .null, .null, .int 0, .int 0, .null, .int 0, .int 0, .null]) := by rw [e11, va_up_self]
  refine lv_aload_n hx hb dX8_init_50 rfl (lv_at hl 0 rfl) ?_
  refine lv_iconst (v := 2) hx hb dX8_init_51 (by decide) ?_
  refine n_newz X hw mw_244 (by decide) (show (2 : Int32).toNatClampNeg = 2 by decide) (by decide) (Nat.le_of_ble_eq_true rfl) (Nat.le_of_ble_eq_true rfl) dX8_init_52 (fun H hw => ?_)
  obtain ⟨c12, e12⟩ : ∃ z : Nat → va_E, z = va_up c11 (203) (.inl (E.2.2.1, 2, .inl fun _ => 0)) := ⟨_, rfl⟩
  have hw : WN E b (204) c12 s H locs := by rw [e12]; exact hw
  have hc12 : c12 (197) = .inr (8, [.int 0, .ref (b + (198)), .ref (b + (199)), .ref (b + (200)), .int 12, .ref (b + (201)), .ref (b + (202)), .null, .int 0, .null, .int 0, .null, .long 0, .null, .int 0, .int 0, .int 0, .int 0, .int 0, .int 0, .int 0, .int 0, .null, .null, .null, .int 0, .int 0, .null, .int 0, .int 0, .null]) := by rw [e12, va_up_ne _ _ (by omega)]; exact hc11
  refine n_putF X hw 7 (by omega) hc12 in_X8 tyX8_ok nmX8 (show vwCl[8]? = some (RX8, TX8, 31) from rfl) (by decide) mw_728 rfl rfl hin rfl (ty := tyX8 7) (by decide +kernel) rfl rfl (Nat.le_of_ble_eq_true rfl) dX8_init_54 (fun H locs hw => ?_)
  obtain ⟨c13, e13⟩ : ∃ z : Nat → va_E, z = va_up c12 (197) (.inr (8, [.int 0, .ref (b + (198)), .ref (b + (199)), .ref (b + (200)), .int 12, .ref (b + (201)), .ref (b + (202)), .ref (b + (203)), .int 0, .null, .int 0, .null, .long 0, .null, .int 0, .int 0, .int 0, .int 0, .int 0, .int 0, .int 0, .int 0, .null, .null, .null, .int 0, .int 0, .null, .int 0, .int 0, .null])) := ⟨_, rfl⟩
  have hw : WN E b (204) c13 s H locs := by rw [e13]; exact hw
  have hc13 : c13 (197) = .inr (8, [.int 0, .ref (b + (198)), .ref (b + (199)), .ref (b + (200)), .int 12, .ref (b + (201)), .ref (b + (202)), .ref (b + (203)), .int 0, .null, .int 0, .null, .long 0, .null, .int 0, .int 0, .int 0, .int 0, .int 0, .int 0, .int 0, .int 0, .null, .null, .null, .int 0, .int 0, .null, .int 0, .int 0, .null]) := by rw [e13, va_up_self]
  refine lv_aload_n hx hb dX8_init_57 rfl (lv_at hl 0 rfl) ?_
  refine lv_iconst (v := 4) hx hb dX8_init_58 (by decide) ?_
  refine n_newi X hw mw_95 (by decide) (show (4 : Int32).toNatClampNeg = 4 by decide) (by decide) (Nat.le_of_ble_eq_true rfl) (Nat.le_of_ble_eq_true rfl) dX8_init_59 (fun H hw => ?_)
  obtain ⟨c14, e14⟩ : ∃ z : Nat → va_E, z = va_up c13 (204) (.inl (E.2.1, 4, .inl fun _ => 0)) := ⟨_, rfl⟩
  have hw : WN E b (205) c14 s H locs := by rw [e14]; exact hw
  have hc14 : c14 (197) = .inr (8, [.int 0, .ref (b + (198)), .ref (b + (199)), .ref (b + (200)), .int 12, .ref (b + (201)), .ref (b + (202)), .ref (b + (203)), .int 0, .null, .int 0, .null, .long 0, .null, .int 0, .int 0, .int 0, .int 0, .int 0, .int 0, .int 0, .int 0, .null, .null, .null, .int 0, .int 0, .null, .int 0, .int 0, .null]) := by rw [e14, va_up_ne _ _ (by omega)]; exact hc13
  refine n_putF X hw 9 (by omega) hc14 in_X8 tyX8_ok nmX8 (show vwCl[8]? = some (RX8, TX8, 31) from rfl) (by decide) mw_730 rfl rfl hin rfl (ty := tyX8 9) (by decide +kernel) rfl rfl (Nat.le_of_ble_eq_true rfl) dX8_init_61 (fun H locs hw => ?_)
  obtain ⟨c15, e15⟩ : ∃ z : Nat → va_E, z = va_up c14 (197) (.inr (8, [.int 0, .ref (b + (198)), .ref (b + (199)), .ref (b + (200)), .int 12, .ref (b + (201)), .ref (b + (202)), .ref (b + (203)), .int 0, .ref (b + (204)), .int 0, .null, .long 0, .null, .int 0, .int 0, .int 0, .int 0, .int 0, .int 0, .int 0, .int 0, .null, .null, .null, .int 0, .int 0, .null, .int 0, .int 0, .null])) := ⟨_, rfl⟩
  have hw : WN E b (205) c15 s H locs := by rw [e15]; exact hw
  have hc15 : c15 (197) = .inr (8, [.int 0, .ref (b + (198)), .ref (b + (199)), .ref (b + (200)), .int 12, .ref (b + (201)), .ref (b + (202)), .ref (b + (203)), .int 0, .ref (b + (204)), .int 0, .null, .long 0, .null, .int 0, .int 0, .int 0, .int 0, .int 0, .int 0, .int 0, .int 0, .null, .null, .null, .int 0, .int 0, .null, .int 0, .int 0, .null]) := by rw [e15, va_up_self]
  refine lv_aload_n hx hb dX8_init_64 rfl (lv_at hl 0 rfl) ?_
  refine lv_bipush (v := 8) hx hb dX8_init_65 (by decide) ?_
  refine n_newi X hw mw_95 (by decide) (show (8 : Int32).toNatClampNeg = 8 by decide) (by decide) (Nat.le_of_ble_eq_true rfl) (Nat.le_of_ble_eq_true rfl) dX8_init_67 (fun H hw => ?_)
  obtain ⟨c16, e16⟩ : ∃ z : Nat → va_E, z = va_up c15 (205) (.inl (E.2.1, 8, .inl fun _ => 0)) := ⟨_, rfl⟩
  have hw : WN E b (206) c16 s H locs := by rw [e16]; exact hw
  have hc16 : c16 (197) = .inr (8, [.int 0, .ref (b + (198)), .ref (b + (199)), .ref (b + (200)), .int 12, .ref (b + (201)), .ref (b + (202)), .ref (b + (203)), .int 0, .ref (b + (204)), .int 0, .null, .long 0, .null, .int 0, .int 0, .int 0, .int 0, .int 0, .int 0, .int 0, .int 0, .null, .null, .null, .int 0, .int 0, .null, .int 0, .int 0, .null]) := by rw [e16, va_up_ne _ _ (by omega)]; exact hc15
  refine n_putF X hw 11 (by omega) hc16 in_X8 tyX8_ok nmX8 (show vwCl[8]? = some (RX8, TX8, 31) from rfl) (by decide) mw_732 rfl rfl hin rfl (ty := tyX8 11) (by decide +kernel) rfl rfl (Nat.le_of_ble_eq_true rfl) dX8_init_69 (fun H locs hw => ?_)
  obtain ⟨c17, e17⟩ : ∃ z : Nat → va_E, z = va_up c16 (197) (.inr (8, [.int 0, .ref (b + (198)), .ref (b + (199)), .ref (b + (200)), .int 12, .ref (b + (201)), .ref (b + (202)), .ref (b + (203)), .int 0, .ref (b + (204)), .int 0, .ref (b + (205)), .long 0, .null, .int 0, .int 0, .int 0, .int 0, .int 0, .int 0, .int 0, .int 0, .null, .null, .null, .int 0, .int 0, .null, .int 0, .int 0, .null])) := ⟨_, rfl⟩
  have hw : WN E b (206) c17 s H locs := by rw [e17]; exact hw
  have hc17 : c17 (197) = .inr (8, [.int 0, .ref (b + (198)), .ref (b + (199)), .ref (b + (200)), .int 12, .ref (b + (201)), .ref (b + (202)), .ref (b + (203)), .int 0, .ref (b + (204)), .int 0, .ref (b + (205)), .long 0, .null, .int 0, .int 0, .int 0, .int 0, .int 0, .int 0, .int 0, .int 0, .null, .null, .null, .int 0, .int 0, .null, .int 0, .int 0, .null]) := by rw [e17, va_up_self]
  refine lv_aload_n hx hb dX8_init_72 rfl (lv_at hl 0 rfl) ?_
  refine lv_bipush (v := 120) hx hb dX8_init_73 (by decide) ?_
  refine n_newi X hw mw_95 (by decide) (show (120 : Int32).toNatClampNeg = 120 by decide) (by decide) (Nat.le_of_ble_eq_true rfl) (Nat.le_of_ble_eq_true rfl) dX8_init_75 (fun H hw => ?_)
  obtain ⟨c18, e18⟩ : ∃ z : Nat → va_E, z = va_up c17 (206) (.inl (E.2.1, 120, .inl fun _ => 0)) := ⟨_, rfl⟩
  have hw : WN E b (207) c18 s H locs := by rw [e18]; exact hw
  have hc18 : c18 (197) = .inr (8, [.int 0, .ref (b + (198)), .ref (b + (199)), .ref (b + (200)), .int 12, .ref (b + (201)), .ref (b + (202)), .ref (b + (203)), .int 0, .ref (b + (204)), .int 0, .ref (b + (205)), .long 0, .null, .int 0, .int 0, .int 0, .int 0, .int 0, .int 0, .int 0, .int 0, .null, .null, .null, .int 0, .int 0, .null, .int 0, .int 0, .null]) := by rw [e18, va_up_ne _ _ (by omega)]; exact hc17
  refine n_putF X hw 13 (by omega) hc18 in_X8 tyX8_ok nmX8 (show vwCl[8]? = some (RX8, TX8, 31) from rfl) (by decide) mw_734 rfl rfl hin rfl (ty := tyX8 13) (by decide +kernel) rfl rfl (Nat.le_of_ble_eq_true rfl) dX8_init_77 (fun H locs hw => ?_)
  obtain ⟨c19, e19⟩ : ∃ z : Nat → va_E, z = va_up c18 (197) (.inr (8, [.int 0, .ref (b + (198)), .ref (b + (199)), .ref (b + (200)), .int 12, .ref (b + (201)), .ref (b + (202)), .ref (b + (203)), .int 0, .ref (b + (204)), .int 0, .ref (b + (205)), .long 0, .ref (b + (206)), .int 0, .int 0, .int 0, .int 0, .int 0, .int 0, .int 0, .int 0, .null, .null, .null, .int 0, .int 0, .null, .int 0, .int 0, .null])) := ⟨_, rfl⟩
  have hw : WN E b (207) c19 s H locs := by rw [e19]; exact hw
  have hc19 : c19 (197) = .inr (8, [.int 0, .ref (b + (198)), .ref (b + (199)), .ref (b + (200)), .int 12, .ref (b + (201)), .ref (b + (202)), .ref (b + (203)), .int 0, .ref (b + (204)), .int 0, .ref (b + (205)), .long 0, .ref (b + (206)), .int 0, .int 0, .int 0, .int 0, .int 0, .int 0, .int 0, .int 0, .null, .null, .null, .int 0, .int 0, .null, .int 0, .int 0, .null]) := by rw [e19, va_up_self]
  refine lv_aload_n hx hb dX8_init_80 rfl (lv_at hl 0 rfl) ?_
  refine lv_iconst (v := 5) hx hb dX8_init_81 (by decide) ?_
  refine n_newi X hw mw_95 (by decide) (show (5 : Int32).toNatClampNeg = 5 by decide) (by decide) (Nat.le_of_ble_eq_true rfl) (Nat.le_of_ble_eq_true rfl) dX8_init_82 (fun H hw => ?_)
  obtain ⟨c20, e20⟩ : ∃ z : Nat → va_E, z = va_up c19 (207) (.inl (E.2.1, 5, .inl fun _ => 0)) := ⟨_, rfl⟩
  have hw : WN E b (208) c20 s H locs := by rw [e20]; exact hw
  have hc20 : c20 (197) = .inr (8, [.int 0, .ref (b + (198)), .ref (b + (199)), .ref (b + (200)), .int 12, .ref (b + (201)), .ref (b + (202)), .ref (b + (203)), .int 0, .ref (b + (204)), .int 0, .ref (b + (205)), .long 0, .ref (b + (206)), .int 0, .int 0, .int 0, .int 0, .int 0, .int 0, .int 0, .int 0, .null, .null, .null, .int 0, .int 0, .null, .int 0, .int 0, .null]) := by rw [e20, va_up_ne _ _ (by omega)]; exact hc19
  refine n_putF X hw 22 (by omega) hc20 in_X8 tyX8_ok nmX8 (show vwCl[8]? = some (RX8, TX8, 31) from rfl) (by decide) mw_743 rfl rfl hin rfl (ty := tyX8 22) (by decide +kernel) rfl rfl (Nat.le_of_ble_eq_true rfl) dX8_init_84 (fun H locs hw => ?_)
  obtain ⟨c21, e21⟩ : ∃ z : Nat → va_E, z = va_up c20 (197) (.inr (8, [.int 0, .ref (b + (198)), .ref (b + (199)), .ref (b + (200)), .int 12, .ref (b + (201)), .ref (b + (202)), .ref (b + (203)), .int 0, .ref (b + (204)), .int 0, .ref (b + (205)), .long 0, .ref (b + (206)), .int 0, .int 0, .int 0, .int 0, .int 0, .int 0, .int 0, .int 0, .ref (b + (207)), .null, .null, .int 0, .int 0, .null, .int 0, .int 0, .null])) := ⟨_, rfl⟩
  have hw : WN E b (208) c21 s H locs := by rw [e21]; exact hw
  have hc21 : c21 (197) = .inr (8, [.int 0, .ref (b + (198)), .ref (b + (199)), .ref (b + (200)), .int 12, .ref (b + (201)), .ref (b + (202)), .ref (b + (203)), .int 0, .ref (b + (204)), .int 0, .ref (b + (205)), .long 0, .ref (b + (206)), .int 0, .int 0, .int 0, .int 0, .int 0, .int 0, .int 0, .int 0, .ref (b + (207)), .null, .null, .int 0, .int 0, .null, .int 0, .int 0, .null]) := by rw [e21, va_up_self]
  refine lv_aload_n hx hb dX8_init_87 rfl (lv_at hl 0 rfl) ?_
  refine lv_iconst (v := 5) hx hb dX8_init_88 (by decide) ?_
  refine n_newi X hw mw_95 (by decide) (show (5 : Int32).toNatClampNeg = 5 by decide) (by decide) (Nat.le_of_ble_eq_true rfl) (Nat.le_of_ble_eq_true rfl) dX8_init_89 (fun H hw => ?_)
  obtain ⟨c22, e22⟩ : ∃ z : Nat → va_E, z = va_up c21 (208) (.inl (E.2.1, 5, .inl fun _ => 0)) := ⟨_, rfl⟩
  have hw : WN E b (209) c22 s H locs := by rw [e22]; exact hw
  have hc22 : c22 (197) = .inr (8, [.int 0, .ref (b + (198)), .ref (b + (199)), .ref (b + (200)), .int 12, .ref (b + (201)), .ref (b + (202)), .ref (b + (203)), .int 0, .ref (b + (204)), .int 0, .ref (b + (205)), .long 0, .ref (b + (206)), .int 0, .int 0, .int 0, .int 0, .int 0, .int 0, .int 0, .int 0, .ref (b + (207)), .null, .null, .int 0, .int 0, .null, .int 0, .int 0, .null]) := by rw [e22, va_up_ne _ _ (by omega)]; exact hc21
  refine n_putF X hw 23 (by omega) hc22 in_X8 tyX8_ok nmX8 (show vwCl[8]? = some (RX8, TX8, 31) from rfl) (by decide) mw_744 rfl rfl hin rfl (ty := tyX8 23) (by decide +kernel) rfl rfl (Nat.le_of_ble_eq_true rfl) dX8_init_91 (fun H locs hw => ?_)
  obtain ⟨c23, e23⟩ : ∃ z : Nat → va_E, z = va_up c22 (197) (.inr (8, [.int 0, .ref (b + (198)), .ref (b + (199)), .ref (b + (200)), .int 12, .ref (b + (201)), .ref (b + (202)), .ref (b + (203)), .int 0, .ref (b + (204)), .int 0, .ref (b + (205)), .long 0, .ref (b + (206)), .int 0, .int 0, .int 0, .int 0, .int 0, .int 0, .int 0, .int 0, .ref (b + (207)), .ref (b + (208)), .null, .int 0, .int 0, .null, .int 0, .int 0, .null])) := ⟨_, rfl⟩
  have hw : WN E b (209) c23 s H locs := by rw [e23]; exact hw
  have hc23 : c23 (197) = .inr (8, [.int 0, .ref (b + (198)), .ref (b + (199)), .ref (b + (200)), .int 12, .ref (b + (201)), .ref (b + (202)), .ref (b + (203)), .int 0, .ref (b + (204)), .int 0, .ref (b + (205)), .long 0, .ref (b + (206)), .int 0, .int 0, .int 0, .int 0, .int 0, .int 0, .int 0, .int 0, .ref (b + (207)), .ref (b + (208)), .null, .int 0, .int 0, .null, .int 0, .int 0, .null]) := by rw [e23, va_up_self]
  refine lv_aload_n hx hb dX8_init_94 rfl (lv_at hl 0 rfl) ?_
  refine lv_bipush (v := 35) hx hb dX8_init_95 (by decide) ?_
  refine n_newi X hw mw_95 (by decide) (show (35 : Int32).toNatClampNeg = 35 by decide) (by decide) (Nat.le_of_ble_eq_true rfl) (Nat.le_of_ble_eq_true rfl) dX8_init_97 (fun H hw => ?_)
  obtain ⟨c24, e24⟩ : ∃ z : Nat → va_E, z = va_up c23 (209) (.inl (E.2.1, 35, .inl fun _ => 0)) := ⟨_, rfl⟩
  have hw : WN E b (210) c24 s H locs := by rw [e24]; exact hw
  have hc24 : c24 (197) = .inr (8, [.int 0, .ref (b + (198)), .ref (b + (199)), .ref (b + (200)), .int 12, .ref (b + (201)), .ref (b + (202)), .ref (b + (203)), .int 0, .ref (b + (204)), .int 0, .ref (b + (205)), .long 0, .ref (b + (206)), .int 0, .int 0, .int 0, .int 0, .int 0, .int 0, .int 0, .int 0, .ref (b + (207)), .ref (b + (208)), .null, .int 0, .int 0, .null, .int 0, .int 0, .null]) := by rw [e24, va_up_ne _ _ (by omega)]; exact hc23
  refine n_putF X hw 24 (by omega) hc24 in_X8 tyX8_ok nmX8 (show vwCl[8]? = some (RX8, TX8, 31) from rfl) (by decide) mw_745 rfl rfl hin rfl (ty := tyX8 24) (by decide +kernel) rfl rfl (Nat.le_of_ble_eq_true rfl) dX8_init_99 (fun H locs hw => ?_)
  obtain ⟨c25, e25⟩ : ∃ z : Nat → va_E, z = va_up c24 (197) (.inr (8, [.int 0, .ref (b + (198)), .ref (b + (199)), .ref (b + (200)), .int 12, .ref (b + (201)), .ref (b + (202)), .ref (b + (203)), .int 0, .ref (b + (204)), .int 0, .ref (b + (205)), .long 0, .ref (b + (206)), .int 0, .int 0, .int 0, .int 0, .int 0, .int 0, .int 0, .int 0, .ref (b + (207)), .ref (b + (208)), .ref (b + (209)), .int 0, .int 0, .null, .int 0, .int 0, .null])) := ⟨_, rfl⟩
  have hw : WN E b (210) c25 s H locs := by rw [e25]; exact hw
  have hc25 : c25 (197) = .inr (8, [.int 0, .ref (b + (198)), .ref (b + (199)), .ref (b + (200)), .int 12, .ref (b + (201)), .ref (b + (202)), .ref (b + (203)), .int 0, .ref (b + (204)), .int 0, .ref (b + (205)), .long 0, .ref (b + (206)), .int 0, .int 0, .int 0, .int 0, .int 0, .int 0, .int 0, .int 0, .ref (b + (207)), .ref (b + (208)), .ref (b + (209)), .int 0, .int 0, .null, .int 0, .int 0, .null]) := by rw [e25, va_up_self]
  refine lv_aload_n hx hb dX8_init_102 rfl (lv_at hl 0 rfl) ?_
  refine lv_bipush (v := 40) hx hb dX8_init_103 (by decide) ?_
  refine n_newi X hw mw_95 (by decide) (show (40 : Int32).toNatClampNeg = 40 by decide) (by decide) (Nat.le_of_ble_eq_true rfl) (Nat.le_of_ble_eq_true rfl) dX8_init_105 (fun H hw => ?_)
  obtain ⟨c26, e26⟩ : ∃ z : Nat → va_E, z = va_up c25 (210) (.inl (E.2.1, 40, .inl fun _ => 0)) := ⟨_, rfl⟩
  have hw : WN E b (211) c26 s H locs := by rw [e26]; exact hw
  have hc26 : c26 (197) = .inr (8, [.int 0, .ref (b + (198)), .ref (b + (199)), .ref (b + (200)), .int 12, .ref (b + (201)), .ref (b + (202)), .ref (b + (203)), .int 0, .ref (b + (204)), .int 0, .ref (b + (205)), .long 0, .ref (b + (206)), .int 0, .int 0, .int 0, .int 0, .int 0, .int 0, .int 0, .int 0, .ref (b + (207)), .ref (b + (208)), .ref (b + (209)), .int 0, .int 0, .null, .int 0, .int 0, .null]) := by rw [e26, va_up_ne _ _ (by omega)]; exact hc25
  refine n_putF X hw 27 (by omega) hc26 in_X8 tyX8_ok nmX8 (show vwCl[8]? = some (RX8, TX8, 31) from rfl) (by decide) mw_748 rfl rfl hin rfl (ty := tyX8 27) (by decide +kernel) rfl rfl (Nat.le_of_ble_eq_true rfl) dX8_init_107 (fun H locs hw => ?_)
  obtain ⟨c27, e27⟩ : ∃ z : Nat → va_E, z = va_up c26 (197) (.inr (8, [.int 0, .ref (b + (198)), .ref (b + (199)), .ref (b + (200)), .int 12, .ref (b + (201)), .ref (b + (202)), .ref (b + (203)), .int 0, .ref (b + (204)), .int 0, .ref (b + (205)), .long 0, .ref (b + (206)), .int 0, .int 0, .int 0, .int 0, .int 0, .int 0, .int 0, .int 0, .ref (b + (207)), .ref (b + (208)), .ref (b + (209)), .int 0, .int 0, .ref (b + (210)), .int 0, .int 0, .null])) := ⟨_, rfl⟩
  have hw : WN E b (211) c27 s H locs := by rw [e27]; exact hw
  have hc27 : c27 (197) = .inr (8, [.int 0, .ref (b + (198)), .ref (b + (199)), .ref (b + (200)), .int 12, .ref (b + (201)), .ref (b + (202)), .ref (b + (203)), .int 0, .ref (b + (204)), .int 0, .ref (b + (205)), .long 0, .ref (b + (206)), .int 0, .int 0, .int 0, .int 0, .int 0, .int 0, .int 0, .int 0, .ref (b + (207)), .ref (b + (208)), .ref (b + (209)), .int 0, .int 0, .ref (b + (210)), .int 0, .int 0, .null]) := by rw [e27, va_up_self]
  refine lv_aload_n hx hb dX8_init_110 rfl (lv_at hl 0 rfl) ?_
  refine lv_bipush (v := 10) hx hb dX8_init_111 (by decide) ?_
  refine n_newi X hw mw_95 (by decide) (show (10 : Int32).toNatClampNeg = 10 by decide) (by decide) (Nat.le_of_ble_eq_true rfl) (Nat.le_of_ble_eq_true rfl) dX8_init_113 (fun H hw => ?_)
  obtain ⟨c28, e28⟩ : ∃ z : Nat → va_E, z = va_up c27 (211) (.inl (E.2.1, 10, .inl fun _ => 0)) := ⟨_, rfl⟩
  have hw : WN E b (212) c28 s H locs := by rw [e28]; exact hw
  have hc28 : c28 (197) = .inr (8, [.int 0, .ref (b + (198)), .ref (b + (199)), .ref (b + (200)), .int 12, .ref (b + (201)), .ref (b + (202)), .ref (b + (203)), .int 0, .ref (b + (204)), .int 0, .ref (b + (205)), .long 0, .ref (b + (206)), .int 0, .int 0, .int 0, .int 0, .int 0, .int 0, .int 0, .int 0, .ref (b + (207)), .ref (b + (208)), .ref (b + (209)), .int 0, .int 0, .ref (b + (210)), .int 0, .int 0, .null]) := by rw [e28, va_up_ne _ _ (by omega)]; exact hc27
  refine n_putF X hw 30 (by omega) hc28 in_X8 tyX8_ok nmX8 (show vwCl[8]? = some (RX8, TX8, 31) from rfl) (by decide) mw_751 rfl rfl hin rfl (ty := tyX8 30) (by decide +kernel) rfl rfl (Nat.le_of_ble_eq_true rfl) dX8_init_115 (fun H locs hw => ?_)
  obtain ⟨c29, e29⟩ : ∃ z : Nat → va_E, z = va_up c28 (197) (.inr (8, [.int 0, .ref (b + (198)), .ref (b + (199)), .ref (b + (200)), .int 12, .ref (b + (201)), .ref (b + (202)), .ref (b + (203)), .int 0, .ref (b + (204)), .int 0, .ref (b + (205)), .long 0, .ref (b + (206)), .int 0, .int 0, .int 0, .int 0, .int 0, .int 0, .int 0, .int 0, .ref (b + (207)), .ref (b + (208)), .ref (b + (209)), .int 0, .int 0, .ref (b + (210)), .int 0, .int 0, .ref (b + (211))])) := ⟨_, rfl⟩
  have hw : WN E b (212) c29 s H locs := by rw [e29]; exact hw
  have hc29 : c29 (197) = .inr (8, [.int 0, .ref (b + (198)), .ref (b + (199)), .ref (b + (200)), .int 12, .ref (b + (201)), .ref (b + (202)), .ref (b + (203)), .int 0, .ref (b + (204)), .int 0, .ref (b + (205)), .long 0, .ref (b + (206)), .int 0, .int 0, .int 0, .int 0, .int 0, .int 0, .int 0, .int 0, .ref (b + (207)), .ref (b + (208)), .ref (b + (209)), .int 0, .int 0, .ref (b + (210)), .int 0, .int 0, .ref (b + (211))]) := by rw [e29, va_up_self]
  refine nE (av := #[]) X hw (fun k k1 k2 => ?_) (fun k k1 => ?_) hr hlk dX8_init_118
  · rcases (show k = 197 ∨ k = 198 ∨ k = 199 ∨ k = 200 ∨ k = 201 ∨ k = 202 ∨ k = 203 ∨ k = 204 ∨ k = 205 ∨ k = 206 ∨ k = 207 ∨ k = 208 ∨ k = 209 ∨ k = 210 ∨ k = 211 by omega) with rfl | rfl | rfl | rfl | rfl | rfl | rfl | rfl | rfl | rfl | rfl | rfl | rfl | rfl | rfl
    · rw [hc29]; exact (C0h_X8 E b).symm
    · rw [show c29 (198) = .inl (E.2.1, 5, .inl fun _ => 0) by simp [e29, e28, e27, e26, e25, e24, e23, e22, e21, e20, e19, e18, e17, e16, e15, e14, e13, e12, e11, e10, e9, e8, e7, e6, e5, e4, e3, e2, e1, va_up]]; exact (C0c_X8_1 E b).symm
    · rw [show c29 (199) = .inl (E.2.1, 5, .inl fun _ => 0) by simp [e29, e28, e27, e26, e25, e24, e23, e22, e21, e20, e19, e18, e17, e16, e15, e14, e13, e12, e11, e10, e9, e8, e7, e6, e5, e4, e3, e2, e1, va_up]]; exact (C0c_X8_2 E b).symm
    · rw [show c29 (200) = .inl (E.2.1, 35, .inl fun _ => 0) by simp [e29, e28, e27, e26, e25, e24, e23, e22, e21, e20, e19, e18, e17, e16, e15, e14, e13, e12, e11, e10, e9, e8, e7, e6, e5, e4, e3, e2, e1, va_up]]; exact (C0c_X8_3 E b).symm
    · rw [show c29 (201) = .inl (E.2.1, 1233, .inl fun _ => 0) by simp [e29, e28, e27, e26, e25, e24, e23, e22, e21, e20, e19, e18, e17, e16, e15, e14, e13, e12, e11, e10, e9, e8, e7, e6, e5, e4, e3, e2, e1, va_up]]; exact (C0c_X8_4 E b).symm
    · rw [show c29 (202) = .inl (E.2.1, 2466, .inl fun _ => 0) by simp [e29, e28, e27, e26, e25, e24, e23, e22, e21, e20, e19, e18, e17, e16, e15, e14, e13, e12, e11, e10, e9, e8, e7, e6, e5, e4, e3, e2, e1, va_up]]; exact (C0c_X8_5 E b).symm
    · rw [show c29 (203) = .inl (E.2.2.1, 2, .inl fun _ => 0) by simp [e29, e28, e27, e26, e25, e24, e23, e22, e21, e20, e19, e18, e17, e16, e15, e14, e13, e12, e11, e10, e9, e8, e7, e6, e5, e4, e3, e2, e1, va_up]]; exact (C0c_X8_6 E b).symm
    · rw [show c29 (204) = .inl (E.2.1, 4, .inl fun _ => 0) by simp [e29, e28, e27, e26, e25, e24, e23, e22, e21, e20, e19, e18, e17, e16, e15, e14, e13, e12, e11, e10, e9, e8, e7, e6, e5, e4, e3, e2, e1, va_up]]; exact (C0c_X8_7 E b).symm
    · rw [show c29 (205) = .inl (E.2.1, 8, .inl fun _ => 0) by simp [e29, e28, e27, e26, e25, e24, e23, e22, e21, e20, e19, e18, e17, e16, e15, e14, e13, e12, e11, e10, e9, e8, e7, e6, e5, e4, e3, e2, e1, va_up]]; exact (C0c_X8_8 E b).symm
    · rw [show c29 (206) = .inl (E.2.1, 120, .inl fun _ => 0) by simp [e29, e28, e27, e26, e25, e24, e23, e22, e21, e20, e19, e18, e17, e16, e15, e14, e13, e12, e11, e10, e9, e8, e7, e6, e5, e4, e3, e2, e1, va_up]]; exact (C0c_X8_9 E b).symm
    · rw [show c29 (207) = .inl (E.2.1, 5, .inl fun _ => 0) by simp [e29, e28, e27, e26, e25, e24, e23, e22, e21, e20, e19, e18, e17, e16, e15, e14, e13, e12, e11, e10, e9, e8, e7, e6, e5, e4, e3, e2, e1, va_up]]; exact (C0c_X8_10 E b).symm
    · rw [show c29 (208) = .inl (E.2.1, 5, .inl fun _ => 0) by simp [e29, e28, e27, e26, e25, e24, e23, e22, e21, e20, e19, e18, e17, e16, e15, e14, e13, e12, e11, e10, e9, e8, e7, e6, e5, e4, e3, e2, e1, va_up]]; exact (C0c_X8_11 E b).symm
    · rw [show c29 (209) = .inl (E.2.1, 35, .inl fun _ => 0) by simp [e29, e28, e27, e26, e25, e24, e23, e22, e21, e20, e19, e18, e17, e16, e15, e14, e13, e12, e11, e10, e9, e8, e7, e6, e5, e4, e3, e2, e1, va_up]]; exact (C0c_X8_12 E b).symm
    · rw [show c29 (210) = .inl (E.2.1, 40, .inl fun _ => 0) by simp [e29, e28, e27, e26, e25, e24, e23, e22, e21, e20, e19, e18, e17, e16, e15, e14, e13, e12, e11, e10, e9, e8, e7, e6, e5, e4, e3, e2, e1, va_up]]; exact (C0c_X8_13 E b).symm
    · rw [show c29 (211) = .inl (E.2.1, 10, .inl fun _ => 0) by simp [e29, e28, e27, e26, e25, e24, e23, e22, e21, e20, e19, e18, e17, e16, e15, e14, e13, e12, e11, e10, e9, e8, e7, e6, e5, e4, e3, e2, e1, va_up]]; exact (C0c_X8_14 E b).symm
  · rw [e29, va_up_ne _ _ (by omega), e28, va_up_ne _ _ (by omega), e27, va_up_ne _ _ (by omega), e26, va_up_ne _ _ (by omega), e25, va_up_ne _ _ (by omega), e24, va_up_ne _ _ (by omega), e23, va_up_ne _ _ (by omega), e22, va_up_ne _ _ (by omega), e21, va_up_ne _ _ (by omega), e20, va_up_ne _ _ (by omega), e19, va_up_ne _ _ (by omega), e18, va_up_ne _ _ (by omega), e17, va_up_ne _ _ (by omega), e16, va_up_ne _ _ (by omega), e15, va_up_ne _ _ (by omega), e14, va_up_ne _ _ (by omega), e13, va_up_ne _ _ (by omega), e12, va_up_ne _ _ (by omega), e11, va_up_ne _ _ (by omega), e10, va_up_ne _ _ (by omega), e9, va_up_ne _ _ (by omega), e8, va_up_ne _ _ (by omega), e7, va_up_ne _ _ (by omega), e6, va_up_ne _ _ (by omega), e5, va_up_ne _ _ (by omega), e4, va_up_ne _ _ (by omega), e3, va_up_ne _ _ (by omega), e2, va_up_ne _ _ (by omega), e1, va_up_ne _ _ (by omega)]
