abbrev rmX7_init : Room := { frames := 4, cells := 196, slots := 4236, locals := 110 }
theorem hd_X7_init : Hd yX7_init RX7 0 := by decide +kernel
theorem C0h_X7 (E : EE) (b : Nat) : C0 E b 0 = .inr (7, [.ref (b + 2), .ref (b + 1), .ref (b + 8), .ref (b + 65), .ref (b + 180), .ref (b + 181), .ref (b + 185), .ref (b + 191), .ref (b + 195), .ref (b + 196), .long 0]) := by rw [C0, ce_X7 E _ _ _ _ kk_0]
theorem C0i (E : EE) (b : Nat) : C0 E b 65 = .inl (E.2.2.2.2, 2, .inr (.inr (.inr (.inr (fun i => some (b + (nI (66 + 57 * i)).toNatClampNeg)))))) := by rw [C0, ce_12 E _ _ _ _ kdv_65]; simp [MC0, show iv 65 = 4 by decide]
theorem C0z (E : EE) (b : Nat) : C0 E b 180 = .inl (E.2.2.1, 2, .inl fun _ => 0) := by rw [C0, ce_2 E _ _ _ _ kdv_180, MC0_0 (by decide)]
theorem C0pl (E : EE) (b : Nat) : C0 E b 195 = .inl (E.2.1, 10, .inl fun _ => 0) := C0_0 E b kdv_195 (by decide)
theorem C0sh (E : EE) (b : Nat) : C0 E b 196 = .inl (E.2.1, 20, .inl fun _ => 0) := C0_0 E b kdv_196 (by decide)
set_option maxHeartbeats 4000000 in
set_option maxRecDepth 100000 in
theorem cn_X7_init (l : Launch) (E : EE) (b : Nat) {c : Nat → va_E} (hc : c 0 = .inr (7, [.null, .null, .null, .null, .null, .null, .null, .null, .null, .null, .long 0])) : Met l yX7_init (.code yX7_init cX7_init 2 none :: wt) rmX7_init (va_Pc [.ref (b + 0)] (PN E b 1 c)) (NQ E b 1 197 (C0 E b) 0 c) 196 4236 (AA b) := by
  refine Met.ofW (cc := cX7_init) (maxL := 2) (ret := none) (by decide) rfl ?_
  intro p e s m args below meth c0' s₁ B hml hv
  obtain ⟨rfl, hP, hz, hK⟩ := hv
  have hx := B.exec
  have hb := B.bytes
  have X : CN E p s m _ c0' cX7_init 2 RX7 := ⟨hx, hb, hml, findClass_of_methodNamed B.named, fun w h => atoms_spec (ws := _ :: wt) B.pre w (List.mem_cons_of_mem _ h), hK⟩
  have hr := B.returns
  have hlk := B.notSynchronized
  have hin : meth.name = "<init>" := (name_of_methodNamed B.named B.method).1
  have hw : WN E b (1) c s s.heap [] := ⟨hP, hz, va_S.rf⟩
  have hl := lv_entry ([.ref (b + 0)]) (n := 2) (Nat.le_of_ble_eq_true rfl)
  rw [lg_entry_eq]
  generalize (lg_sl ([.ref (b + 0)]) ++ List.replicate (2 - (lg_sl ([.ref (b + 0)])).length) Slot.unset).toArray = ls at hl ⊢
  have hl : lv_has ls 2 [(0, .ref (b + 0))] := hl
  obtain ⟨H, hH⟩ : ∃ H, H = s.heap := ⟨_, rfl⟩
  obtain ⟨locs, hL⟩ : ∃ L : List Loc, L = [] := ⟨_, rfl⟩
  rw [← hH, ← hL] at hw
  suffices hg : W p l e rmX7_init s m _ below meth c0' H locs 0 0 (MQ below (NQ E b (1) 197 (C0 E b) (0) c) _ s 196 4236 (AA b)) (F0 m 0 ls []) by rw [hH, hL] at hg; exact hg
  clear hH hL
  obtain ⟨c0, ec0⟩ : ∃ z, z = c := ⟨_, rfl⟩
  rw [← ec0] at hw hc
  have hA : ∀ k, 1 ≤ k → k < 1 → c0 k = C0 E b k := fun k h1 h2 => absurd h2 (by omega)
  refine lv_aload_n hx hb dX7_init_0 rfl (lv_at hl 0 rfl) ?_
  refine n_obj X mw_70 mw_71 mw_72 hl.1 dX7_init_1 (Nat.le_of_ble_eq_true rfl) (Nat.le_of_ble_eq_true rfl) ?_
  refine lv_aload_n hx hb dX7_init_4 rfl (lv_at hl 0 rfl) ?_
  refine n_new (ci := 2) (fs := [.null, .null, .int 0, .int 0, .int 0, .int 0, .int 0, .int 0]) X hw in_X2 tyX2 tyX2_ok mw_73 mw_74 mw_53 (show vwCl[2]? = some (RX2, TX2, 8) from rfl) (fun j hj => by rcases (show j = 0 ∨ j = 1 ∨ j = 2 ∨ j = 3 ∨ j = 4 ∨ j = 5 ∨ j = 6 ∨ j = 7 by omega) with rfl | rfl | rfl | rfl | rfl | rfl | rfl | rfl <;> rfl) (Nat.le_of_ble_eq_true rfl) (Nat.le_of_ble_eq_true rfl) dX7_init_5 (fun H hw => ?_)
  refine lv_dup hx hb dX7_init_8 rfl ?_
  refine nN_ (As := []) (host := RX7) X hw (cn_X2_init l E b (va_up_self _ _ _)) (by decide +kernel) mw_76 mw_53 mw_77 rfl hd_X2_init ⟨Nat.le_of_ble_eq_true rfl, Nat.le_of_ble_eq_true rfl, rfl, rfl⟩ rfl hl.1 rfl (Nat.le_of_ble_eq_true rfl) dX7_init_9 ⟨Nat.le_of_ble_eq_true rfl, Nat.le_of_ble_eq_true rfl⟩ (fun u H locs hu1 hu2 hw => ?_)
  obtain ⟨c1, ec1⟩ : ∃ z : Nat → va_E, z = u := ⟨_, rfl⟩
  rw [← ec1] at hw hu1 hu2
  have hA : ∀ k, 1 ≤ k → k < 8 → c1 k = C0 E b k := by
    intro k h1 h2
    by_cases hk : k < 1
    · rw [hu2 k hk, va_up_ne _ _ (by omega)]; exact hA k h1 hk
    · exact hu1 k (by omega) h2
  have hc : c1 0 = .inr (7, [.null, .null, .null, .null, .null, .null, .null, .null, .null, .null, .long 0]) := by rw [hu2 0 (by decide), va_up_ne _ _ (by decide)]; exact hc
  refine n_putF X hw 1 (by omega) hc in_X7 tyX7_ok nmX7 (show vwCl[7]? = some (RX7, TX7, 11) from rfl) (by decide) mw_279 rfl rfl hin rfl (ty := tyX7 1) (by decide +kernel) rfl rfl (Nat.le_of_ble_eq_true rfl) dX7_init_12 (fun H locs hw => ?_)
  obtain ⟨c2, ec2⟩ : ∃ z : Nat → va_E, z = va_up c1 0 (.inr (7, [.null, .ref (b + 1), .null, .null, .null, .null, .null, .null, .null, .null, .long 0])) := ⟨_, rfl⟩
  have hw : WN E b 8 c2 s H locs := by rw [ec2]; exact hw
  have hc : c2 0 = .inr (7, [.null, .ref (b + 1), .null, .null, .null, .null, .null, .null, .null, .null, .long 0]) := by rw [ec2, va_up_self]
  have hA : ∀ k, 1 ≤ k → k < 8 → c2 k = C0 E b k := fun k h1 h2 => by rw [ec2, va_up_ne _ _ (by omega)]; exact hA k h1 h2
  refine lv_aload_n hx hb dX7_init_15 rfl (lv_at hl 0 rfl) ?_
  refine lv_aload_n hx hb dX7_init_16 rfl (lv_at hl 0 rfl) ?_
  refine n_get X hw 1 (by omega) hc in_X7 (show vwCl[7]? = some (RX7, TX7, 11) from rfl) (by decide) mw_279 rfl rfl dX7_init_17 ?_
  refine n_get X hw 0 (by omega) ((hA 1 (by decide) (by decide)).trans (C0h_X2 E b)) in_X2 (show vwCl[2]? = some (RX2, TX2, 8) from rfl) (by decide) mw_137 rfl rfl dX7_init_20 ?_
  refine n_putF X hw 0 (by omega) hc in_X7 tyX7_ok nmX7 (show vwCl[7]? = some (RX7, TX7, 11) from rfl) (by decide) mw_278 rfl rfl hin rfl (ty := tyX7 0) (by decide +kernel) rfl rfl (Nat.le_of_ble_eq_true rfl) dX7_init_23 (fun H locs hw => ?_)
  obtain ⟨c3, ec3⟩ : ∃ z : Nat → va_E, z = va_up c2 0 (.inr (7, [.ref (b + 2), .ref (b + 1), .null, .null, .null, .null, .null, .null, .null, .null, .long 0])) := ⟨_, rfl⟩
  have hw : WN E b 8 c3 s H locs := by rw [ec3]; exact hw
  have hc : c3 0 = .inr (7, [.ref (b + 2), .ref (b + 1), .null, .null, .null, .null, .null, .null, .null, .null, .long 0]) := by rw [ec3, va_up_self]
  have hA : ∀ k, 1 ≤ k → k < 8 → c3 k = C0 E b k := fun k h1 h2 => by rw [ec3, va_up_ne _ _ (by omega)]; exact hA k h1 h2
  refine lv_aload_n hx hb dX7_init_26 rfl (lv_at hl 0 rfl) ?_
  refine n_new (ci := 5) (fs := [.null, .null, .int 0]) X hw in_X5 tyX5 tyX5_ok mw_163 mw_164 mw_56 (show vwCl[5]? = some (RX5, TX5, 3) from rfl) (fun j hj => by rcases (show j = 0 ∨ j = 1 ∨ j = 2 by omega) with rfl | rfl | rfl <;> rfl) (Nat.le_of_ble_eq_true rfl) (Nat.le_of_ble_eq_true rfl) dX7_init_27 (fun H hw => ?_)
  refine lv_dup hx hb dX7_init_30 rfl ?_
  refine nI_ (As := []) X hw (cn_X5_init l E b (o := 8) kk_8 (va_up_self _ _ _)) mw_165 mw_166 mw_56 mw_167 rfl hd_X5_init ⟨Nat.le_of_ble_eq_true rfl, Nat.le_of_ble_eq_true rfl, rfl, rfl⟩ rfl hl.1 rfl (Nat.le_of_ble_eq_true rfl) dX7_init_31 ⟨Nat.le_of_ble_eq_true rfl, Nat.le_of_ble_eq_true rfl⟩ (fun u H locs hu1 hu2 hw => ?_)
  obtain ⟨c4, ec4⟩ : ∃ z : Nat → va_E, z = u := ⟨_, rfl⟩
  rw [← ec4] at hw hu1 hu2
  have hA : ∀ k, 1 ≤ k → k < 65 → c4 k = C0 E b k := by
    intro k h1 h2
    by_cases hk : k < 8
    · rw [hu2 k hk, va_up_ne _ _ (by omega)]; exact hA k h1 hk
    · exact hu1 k (by omega) h2
  have hc : c4 0 = .inr (7, [.ref (b + 2), .ref (b + 1), .null, .null, .null, .null, .null, .null, .null, .null, .long 0]) := by rw [hu2 0 (by decide), va_up_ne _ _ (by decide)]; exact hc
  refine n_putF X hw 2 (by omega) hc in_X7 tyX7_ok nmX7 (show vwCl[7]? = some (RX7, TX7, 11) from rfl) (by decide) mw_280 rfl rfl hin rfl (ty := tyX7 2) (by decide +kernel) rfl rfl (Nat.le_of_ble_eq_true rfl) dX7_init_34 (fun H locs hw => ?_)
  obtain ⟨c5, ec5⟩ : ∃ z : Nat → va_E, z = va_up c4 0 (.inr (7, [.ref (b + 2), .ref (b + 1), .ref (b + 8), .null, .null, .null, .null, .null, .null, .null, .long 0])) := ⟨_, rfl⟩
  have hw : WN E b 65 c5 s H locs := by rw [ec5]; exact hw
  have hc : c5 0 = .inr (7, [.ref (b + 2), .ref (b + 1), .ref (b + 8), .null, .null, .null, .null, .null, .null, .null, .long 0]) := by rw [ec5, va_up_self]
  have hA : ∀ k, 1 ≤ k → k < 65 → c5 k = C0 E b k := fun k h1 h2 => by rw [ec5, va_up_ne _ _ (by omega)]; exact hA k h1 h2
  refine lv_aload_n hx hb dX7_init_37 rfl (lv_at hl 0 rfl) ?_
  refine lv_iconst (v := 2) hx hb dX7_init_38 (by decide) ?_
  refine n_newq X hw 3 rfl mw_163 X.2.2.2.2.2.2.2.2 (by decide) (show (2 : Int32).toNatClampNeg = 2 by decide) (by decide) (Nat.le_of_ble_eq_true rfl) (Nat.le_of_ble_eq_true rfl) dX7_init_39 (fun H hw => ?_)
  obtain ⟨c6, ec6⟩ : ∃ z : Nat → va_E, z = va_up c5 65 (.inl (E.2.2.2.2, 2, .inr (.inr (.inr (.inr (fun _ => none)))))) := ⟨_, rfl⟩
  have hw : WN E b 66 c6 s H locs := by rw [ec6]; exact hw
  have hc : c6 0 = .inr (7, [.ref (b + 2), .ref (b + 1), .ref (b + 8), .null, .null, .null, .null, .null, .null, .null, .long 0]) := by rw [ec6, va_up_ne _ _ (by decide)]; exact hc
  have hp : c6 65 = .inl (E.2.2.2.2, 2, .inr (.inr (.inr (.inr (fun _ => none))))) := by rw [ec6, va_up_self]
  have hA : ∀ k, 1 ≤ k → k < 66 → k ≠ 65 → c6 k = C0 E b k := fun k h1 h2 h3 => by rw [ec6, va_up_ne _ _ h3]; exact hA k h1 (by omega)
  refine n_putF X hw 3 (by omega) hc in_X7 tyX7_ok nmX7 (show vwCl[7]? = some (RX7, TX7, 11) from rfl) (by decide) mw_281 rfl rfl hin rfl (ty := tyX7 3) (by decide +kernel) rfl rfl (Nat.le_of_ble_eq_true rfl) dX7_init_42 (fun H locs hw => ?_)
  obtain ⟨c7, ec7⟩ : ∃ z : Nat → va_E, z = va_up c6 0 (.inr (7, [.ref (b + 2), .ref (b + 1), .ref (b + 8), .ref (b + 65), .null, .null, .null, .null, .null, .null, .long 0])) := ⟨_, rfl⟩
  have hw : WN E b 66 c7 s H locs := by rw [ec7]; exact hw
  have hc : c7 0 = .inr (7, [.ref (b + 2), .ref (b + 1), .ref (b + 8), .ref (b + 65), .null, .null, .null, .null, .null, .null, .long 0]) := by rw [ec7, va_up_self]
  have hA : ∀ k, 1 ≤ k → k < 66 → k ≠ 65 → c7 k = C0 E b k := fun k h1 h2 h3 => by rw [ec7, va_up_ne _ _ (by omega)]; exact hA k h1 h2 h3
  have hp : c7 65 = .inl (E.2.2.2.2, 2, .inr (.inr (.inr (.inr (fun _ => none))))) := by rw [ec7, va_up_ne _ _ (by decide)]; exact hp
  refine lv_iconst (v := 0) hx hb dX7_init_45 (by decide) ?_
  refine lv_istore_n (lv' := [(1, .int 0), (0, .ref (b + 0))]) hx hb dX7_init_46 rfl hl (by decide) rfl (fun ls hl => ?_)
  refine lv_iload_n hx hb dX7_init_47 rfl (lv_at hl 0 rfl) ?_
  refine lv_iconst (v := 2) hx hb dX7_init_48 (by decide) ?_
  refine lv_icmp_ge (tgt := 71) hx hb dX7_init_49 (by decide) (fun q => absurd q (by decide)) (fun q => ?_)
  refine lv_aload_n hx hb dX7_init_52 rfl (lv_at hl 1 rfl) ?_
  refine n_get X hw 3 (by omega) hc in_X7 (show vwCl[7]? = some (RX7, TX7, 11) from rfl) (by decide) mw_281 rfl rfl dX7_init_53 ?_
  refine lv_iload_n hx hb dX7_init_56 rfl (lv_at hl 0 rfl) ?_
  refine n_new (ci := 5) (fs := [.null, .null, .int 0]) X hw in_X5 tyX5 tyX5_ok mw_163 mw_164 mw_56 (show vwCl[5]? = some (RX5, TX5, 3) from rfl) (fun j hj => by rcases (show j = 0 ∨ j = 1 ∨ j = 2 by omega) with rfl | rfl | rfl <;> rfl) (Nat.le_of_ble_eq_true rfl) (Nat.le_of_ble_eq_true rfl) dX7_init_57 (fun H hw => ?_)
  refine lv_dup hx hb dX7_init_60 rfl ?_
  refine nI_ (As := []) X hw (cn_X5_init l E b (o := 66) kk_66 (va_up_self _ _ _)) mw_165 mw_166 mw_56 mw_167 rfl hd_X5_init ⟨Nat.le_of_ble_eq_true rfl, Nat.le_of_ble_eq_true rfl, rfl, rfl⟩ rfl hl.1 rfl (Nat.le_of_ble_eq_true rfl) dX7_init_61 ⟨Nat.le_of_ble_eq_true rfl, Nat.le_of_ble_eq_true rfl⟩ (fun u H locs hu1 hu2 hw => ?_)
  obtain ⟨c8, ec8⟩ : ∃ z : Nat → va_E, z = u := ⟨_, rfl⟩
  rw [← ec8] at hw hu1 hu2
  have hA : ∀ k, 1 ≤ k → k < 123 → k ≠ 65 → c8 k = C0 E b k := by
    intro k h1 h2 h3
    by_cases hk : k < 66
    · rw [hu2 k hk, va_up_ne _ _ (by omega)]; exact hA k h1 hk h3
    · exact hu1 k (by omega) h2
  have hp : c8 65 = .inl (E.2.2.2.2, 2, .inr (.inr (.inr (.inr (fun _ => none))))) := by rw [hu2 65 (by decide), va_up_ne _ _ (by decide)]; exact hp
  have hc : c8 0 = .inr (7, [.ref (b + 2), .ref (b + 1), .ref (b + 8), .ref (b + 65), .null, .null, .null, .null, .null, .null, .long 0]) := by rw [hu2 0 (by decide), va_up_ne _ _ (by decide)]; exact hc
  have q2 : c8 66 = .inr (5, [.ref (b + (66 + 1)), .ref (b + (66 + 6)), .int 0]) := by rw [hA 66 (by decide) (by decide) (by decide)]; exact C0h_X5 E b kk_66
  refine n_aast X hw 3 (r := (RX5, TX5, 3)) rfl (by omega) hp (by omega) q2 rfl (show vp_in (0 : Int32) 2 by unfold vp_in; decide) dX7_init_64 (fun H locs hw => ?_)
  obtain ⟨c9, ec9⟩ : ∃ z : Nat → va_E, z = va_up c8 65 (.inl (E.2.2.2.2, 2, .inr (.inr (.inr (.inr (va_up (fun _ => none) (0 : Int32).toNatClampNeg (some (b + 66)))))))) := ⟨_, rfl⟩
  have hw : WN E b 123 c9 s H locs := by rw [ec9]; exact hw
  have hc : c9 0 = .inr (7, [.ref (b + 2), .ref (b + 1), .ref (b + 8), .ref (b + 65), .null, .null, .null, .null, .null, .null, .long 0]) := by rw [ec9, va_up_ne _ _ (by decide)]; exact hc
  have hp : c9 65 = .inl (E.2.2.2.2, 2, .inr (.inr (.inr (.inr (va_up (fun _ => none) (0 : Int32).toNatClampNeg (some (b + 66))))))) := by rw [ec9, va_up_self]
  have hA : ∀ k, 1 ≤ k → k < 123 → k ≠ 65 → c9 k = C0 E b k := fun k h1 h2 h3 => by rw [ec9, va_up_ne _ _ h3]; exact hA k h1 h2 h3
  refine lv_iinc (v := 1) (lv' := [(1, .int 1), (0, .ref (b + 0))]) hx hb dX7_init_65 hl (k := 0) rfl (by decide) (by decide) rfl (fun ls hl => ?_)
  refine lv_goto (tgt := 47) hx hb dX7_init_68 (by decide) ?_
  refine lv_iload_n hx hb dX7_init_47 rfl (lv_at hl 0 rfl) ?_
  refine lv_iconst (v := 2) hx hb dX7_init_48 (by decide) ?_
  refine lv_icmp_ge (tgt := 71) hx hb dX7_init_49 (by decide) (fun q => absurd q (by decide)) (fun q => ?_)
  refine lv_aload_n hx hb dX7_init_52 rfl (lv_at hl 1 rfl) ?_
  refine n_get X hw 3 (by omega) hc in_X7 (show vwCl[7]? = some (RX7, TX7, 11) from rfl) (by decide) mw_281 rfl rfl dX7_init_53 ?_
  refine lv_iload_n hx hb dX7_init_56 rfl (lv_at hl 0 rfl) ?_
  refine n_new (ci := 5) (fs := [.null, .null, .int 0]) X hw in_X5 tyX5 tyX5_ok mw_163 mw_164 mw_56 (show vwCl[5]? = some (RX5, TX5, 3) from rfl) (fun j hj => by rcases (show j = 0 ∨ j = 1 ∨ j = 2 by omega) with rfl | rfl | rfl <;> rfl) (Nat.le_of_ble_eq_true rfl) (Nat.le_of_ble_eq_true rfl) dX7_init_57 (fun H hw => ?_)
  refine lv_dup hx hb dX7_init_60 rfl ?_
  refine nI_ (As := []) X hw (cn_X5_init l E b (o := 123) kk_123 (va_up_self _ _ _)) mw_165 mw_166 mw_56 mw_167 rfl hd_X5_init ⟨Nat.le_of_ble_eq_true rfl, Nat.le_of_ble_eq_true rfl, rfl, rfl⟩ rfl hl.1 rfl (Nat.le_of_ble_eq_true rfl) dX7_init_61 ⟨Nat.le_of_ble_eq_true rfl, Nat.le_of_ble_eq_true rfl⟩ (fun u H locs hu1 hu2 hw => ?_)
  obtain ⟨c10, ec10⟩ : ∃ z : Nat → va_E, z = u := ⟨_, rfl⟩
  rw [← ec10] at hw hu1 hu2
  have hA : ∀ k, 1 ≤ k → k < 180 → k ≠ 65 → c10 k = C0 E b k := by
    intro k h1 h2 h3
    by_cases hk : k < 123
    · rw [hu2 k hk, va_up_ne _ _ (by omega)]; exact hA k h1 hk h3
    · exact hu1 k (by omega) h2
  have hp : c10 65 = .inl (E.2.2.2.2, 2, .inr (.inr (.inr (.inr (va_up (fun _ => none) (0 : Int32).toNatClampNeg (some (b + 66))))))) := by rw [hu2 65 (by decide), va_up_ne _ _ (by decide)]; exact hp
  have hc : c10 0 = .inr (7, [.ref (b + 2), .ref (b + 1), .ref (b + 8), .ref (b + 65), .null, .null, .null, .null, .null, .null, .long 0]) := by rw [hu2 0 (by decide), va_up_ne _ _ (by decide)]; exact hc
  have q2 : c10 123 = .inr (5, [.ref (b + (123 + 1)), .ref (b + (123 + 6)), .int 0]) := by rw [hA 123 (by decide) (by decide) (by decide)]; exact C0h_X5 E b kk_123
  refine n_aast X hw 3 (r := (RX5, TX5, 3)) rfl (by omega) hp (by omega) q2 rfl (show vp_in (1 : Int32) 2 by unfold vp_in; decide) dX7_init_64 (fun H locs hw => ?_)
  obtain ⟨c11, ec11⟩ : ∃ z : Nat → va_E, z = va_up c10 65 (.inl (E.2.2.2.2, 2, .inr (.inr (.inr (.inr (va_up (va_up (fun _ => none) (0 : Int32).toNatClampNeg (some (b + 66))) (1 : Int32).toNatClampNeg (some (b + 123)))))))) := ⟨_, rfl⟩
  have hw : WN E b 180 c11 s H locs := by rw [ec11]; exact hw
  have hc : c11 0 = .inr (7, [.ref (b + 2), .ref (b + 1), .ref (b + 8), .ref (b + 65), .null, .null, .null, .null, .null, .null, .long 0]) := by rw [ec11, va_up_ne _ _ (by decide)]; exact hc
  have hp : c11 65 = .inl (E.2.2.2.2, 2, .inr (.inr (.inr (.inr (va_up (va_up (fun _ => none) (0 : Int32).toNatClampNeg (some (b + 66))) (1 : Int32).toNatClampNeg (some (b + 123))))))) := by rw [ec11, va_up_self]
  have hA : ∀ k, 1 ≤ k → k < 180 → k ≠ 65 → c11 k = C0 E b k := fun k h1 h2 h3 => by rw [ec11, va_up_ne _ _ h3]; exact hA k h1 h2 h3
  refine lv_iinc (v := 2) (lv' := [(1, .int 2), (0, .ref (b + 0))]) hx hb dX7_init_65 hl (k := 0) rfl (by decide) (by decide) rfl (fun ls hl => ?_)
  refine lv_goto (tgt := 47) hx hb dX7_init_68 (by decide) ?_
  refine lv_iload_n hx hb dX7_init_47 rfl (lv_at hl 0 rfl) ?_
  refine lv_iconst (v := 2) hx hb dX7_init_48 (by decide) ?_
  refine lv_icmp_ge (tgt := 71) hx hb dX7_init_49 (by decide) (fun q => ?_) (fun q => absurd (by decide) q)
  have hw := WN_extq (g := fun i => some (b + (nI (66 + 57 * i)).toNatClampNeg)) hw (by omega) hp (fun j hj => by rcases (show j = 0 ∨ j = 1 by omega) with rfl | rfl <;> rfl)
  obtain ⟨c12, ec12⟩ : ∃ z : Nat → va_E, z = va_up c11 65 (.inl (E.2.2.2.2, 2, .inr (.inr (.inr (.inr (fun i => some (b + (nI (66 + 57 * i)).toNatClampNeg))))))) := ⟨_, rfl⟩
  rw [← ec12] at hw
  have hc : c12 0 = .inr (7, [.ref (b + 2), .ref (b + 1), .ref (b + 8), .ref (b + 65), .null, .null, .null, .null, .null, .null, .long 0]) := by rw [ec12, va_up_ne _ _ (by decide)]; exact hc
  have hA : ∀ k, 1 ≤ k → k < 180 → c12 k = C0 E b k := fun k h1 h2 => by
    rw [ec12]
    by_cases hk : k = 65
    · subst hk; rw [va_up_self]; exact (C0i E b).symm
    · rw [va_up_ne _ _ hk]; exact hA k h1 h2 hk
  refine lv_aload_n hx hb dX7_init_71 rfl (lv_at hl 1 rfl) ?_
  refine lv_iconst (v := 2) hx hb dX7_init_72 (by decide) ?_
  refine n_newz X hw mw_244 (by decide) (show (2 : Int32).toNatClampNeg = 2 by decide) (by decide) (Nat.le_of_ble_eq_true rfl) (Nat.le_of_ble_eq_true rfl) dX7_init_73 (fun H hw => ?_)
  obtain ⟨c13, ec13⟩ : ∃ z : Nat → va_E, z = va_up c12 180 (.inl (E.2.2.1, 2, .inl fun _ => 0)) := ⟨_, rfl⟩
  have hw : WN E b 181 c13 s H locs := by rw [ec13]; exact hw
  have hc : c13 0 = .inr (7, [.ref (b + 2), .ref (b + 1), .ref (b + 8), .ref (b + 65), .null, .null, .null, .null, .null, .null, .long 0]) := by rw [ec13, va_up_ne _ _ (by decide)]; exact hc
  have hA : ∀ k, 1 ≤ k → k < 181 → c13 k = C0 E b k := fun k h1 h2 => by
    rw [ec13]
    by_cases hk : k = 180
    · subst hk; rw [va_up_self]; exact (C0z E b).symm
    · rw [va_up_ne _ _ hk]; exact hA k h1 (by omega)
  refine n_putF X hw 4 (by omega) hc in_X7 tyX7_ok nmX7 (show vwCl[7]? = some (RX7, TX7, 11) from rfl) (by decide) mw_282 rfl rfl hin rfl (ty := tyX7 4) (by decide +kernel) rfl rfl (Nat.le_of_ble_eq_true rfl) dX7_init_75 (fun H locs hw => ?_)
  obtain ⟨c14, ec14⟩ : ∃ z : Nat → va_E, z = va_up c13 0 (.inr (7, [.ref (b + 2), .ref (b + 1), .ref (b + 8), .ref (b + 65), .ref (b + 180), .null, .null, .null, .null, .null, .long 0])) := ⟨_, rfl⟩
  have hw : WN E b 181 c14 s H locs := by rw [ec14]; exact hw
  have hc : c14 0 = .inr (7, [.ref (b + 2), .ref (b + 1), .ref (b + 8), .ref (b + 65), .ref (b + 180), .null, .null, .null, .null, .null, .long 0]) := by rw [ec14, va_up_self]
  have hA : ∀ k, 1 ≤ k → k < 181 → c14 k = C0 E b k := fun k h1 h2 => by rw [ec14, va_up_ne _ _ (by omega)]; exact hA k h1 h2
  refine lv_aload_n hx hb dX7_init_78 rfl (lv_at hl 1 rfl) ?_
  refine n_new (ci := 0) (fs := [.null, .null, .null, .int 0, .int 0]) X hw in_X0 tyX0 tyX0_ok mw_217 mw_218 mw_59 (show vwCl[0]? = some (RX0, TX0, 5) from rfl) (fun j hj => by rcases (show j = 0 ∨ j = 1 ∨ j = 2 ∨ j = 3 ∨ j = 4 by omega) with rfl | rfl | rfl | rfl | rfl <;> rfl) (Nat.le_of_ble_eq_true rfl) (Nat.le_of_ble_eq_true rfl) dX7_init_79 (fun H hw => ?_)
  refine lv_dup hx hb dX7_init_82 rfl ?_
  refine nN_ (As := []) (host := RX7) X hw (cn_X0_init l E b (va_up_self _ _ _)) (by decide +kernel) mw_220 mw_59 mw_221 rfl hd_X0_init ⟨Nat.le_of_ble_eq_true rfl, Nat.le_of_ble_eq_true rfl, rfl, rfl⟩ rfl hl.1 rfl (Nat.le_of_ble_eq_true rfl) dX7_init_83 ⟨Nat.le_of_ble_eq_true rfl, Nat.le_of_ble_eq_true rfl⟩ (fun u H locs hu1 hu2 hw => ?_)
  obtain ⟨c15, ec15⟩ : ∃ z : Nat → va_E, z = u := ⟨_, rfl⟩
  rw [← ec15] at hw hu1 hu2
  have hA : ∀ k, 1 ≤ k → k < 185 → c15 k = C0 E b k := by
    intro k h1 h2
    by_cases hk : k < 181
    · rw [hu2 k hk, va_up_ne _ _ (by omega)]; exact hA k h1 hk
    · exact hu1 k (by omega) h2
  have hc : c15 0 = .inr (7, [.ref (b + 2), .ref (b + 1), .ref (b + 8), .ref (b + 65), .ref (b + 180), .null, .null, .null, .null, .null, .long 0]) := by rw [hu2 0 (by decide), va_up_ne _ _ (by decide)]; exact hc
  refine n_putF X hw 5 (by omega) hc in_X7 tyX7_ok nmX7 (show vwCl[7]? = some (RX7, TX7, 11) from rfl) (by decide) mw_283 rfl rfl hin rfl (ty := tyX7 5) (by decide +kernel) rfl rfl (Nat.le_of_ble_eq_true rfl) dX7_init_86 (fun H locs hw => ?_)
  obtain ⟨c16, ec16⟩ : ∃ z : Nat → va_E, z = va_up c15 0 (.inr (7, [.ref (b + 2), .ref (b + 1), .ref (b + 8), .ref (b + 65), .ref (b + 180), .ref (b + 181), .null, .null, .null, .null, .long 0])) := ⟨_, rfl⟩
  have hw : WN E b 185 c16 s H locs := by rw [ec16]; exact hw
  have hc : c16 0 = .inr (7, [.ref (b + 2), .ref (b + 1), .ref (b + 8), .ref (b + 65), .ref (b + 180), .ref (b + 181), .null, .null, .null, .null, .long 0]) := by rw [ec16, va_up_self]
  have hA : ∀ k, 1 ≤ k → k < 185 → c16 k = C0 E b k := fun k h1 h2 => by rw [ec16, va_up_ne _ _ (by omega)]; exact hA k h1 h2
  refine lv_aload_n hx hb dX7_init_89 rfl (lv_at hl 1 rfl) ?_
  refine n_new (ci := 3) (fs := [.null, .null, .null, .null, .null, .int 0, .int 0, .int 0]) X hw in_X3 tyX3 tyX3_ok mw_245 mw_246 mw_60 (show vwCl[3]? = some (RX3, TX3, 8) from rfl) (fun j hj => by rcases (show j = 0 ∨ j = 1 ∨ j = 2 ∨ j = 3 ∨ j = 4 ∨ j = 5 ∨ j = 6 ∨ j = 7 by omega) with rfl | rfl | rfl | rfl | rfl | rfl | rfl | rfl <;> rfl) (Nat.le_of_ble_eq_true rfl) (Nat.le_of_ble_eq_true rfl) dX7_init_90 (fun H hw => ?_)
  refine lv_dup hx hb dX7_init_93 rfl ?_
  refine nN_ (As := []) (host := RX7) X hw (cn_X3_init l E b (va_up_self _ _ _)) (by decide +kernel) mw_248 mw_60 mw_249 rfl hd_X3_init ⟨Nat.le_of_ble_eq_true rfl, Nat.le_of_ble_eq_true rfl, rfl, rfl⟩ rfl hl.1 rfl (Nat.le_of_ble_eq_true rfl) dX7_init_94 ⟨Nat.le_of_ble_eq_true rfl, Nat.le_of_ble_eq_true rfl⟩ (fun u H locs hu1 hu2 hw => ?_)
  obtain ⟨c17, ec17⟩ : ∃ z : Nat → va_E, z = u := ⟨_, rfl⟩
  rw [← ec17] at hw hu1 hu2
  have hA : ∀ k, 1 ≤ k → k < 191 → c17 k = C0 E b k := by
    intro k h1 h2
    by_cases hk : k < 185
    · rw [hu2 k hk, va_up_ne _ _ (by omega)]; exact hA k h1 hk
    · exact hu1 k (by omega) h2
  have hc : c17 0 = .inr (7, [.ref (b + 2), .ref (b + 1), .ref (b + 8), .ref (b + 65), .ref (b + 180), .ref (b + 181), .null, .null, .null, .null, .long 0]) := by rw [hu2 0 (by decide), va_up_ne _ _ (by decide)]; exact hc
  refine n_putF X hw 6 (by omega) hc in_X7 tyX7_ok nmX7 (show vwCl[7]? = some (RX7, TX7, 11) from rfl) (by decide) mw_284 rfl rfl hin rfl (ty := tyX7 6) (by decide +kernel) rfl rfl (Nat.le_of_ble_eq_true rfl) dX7_init_97 (fun H locs hw => ?_)
  obtain ⟨c18, ec18⟩ : ∃ z : Nat → va_E, z = va_up c17 0 (.inr (7, [.ref (b + 2), .ref (b + 1), .ref (b + 8), .ref (b + 65), .ref (b + 180), .ref (b + 181), .ref (b + 185), .null, .null, .null, .long 0])) := ⟨_, rfl⟩
  have hw : WN E b 191 c18 s H locs := by rw [ec18]; exact hw
  have hc : c18 0 = .inr (7, [.ref (b + 2), .ref (b + 1), .ref (b + 8), .ref (b + 65), .ref (b + 180), .ref (b + 181), .ref (b + 185), .null, .null, .null, .long 0]) := by rw [ec18, va_up_self]
  have hA : ∀ k, 1 ≤ k → k < 191 → c18 k = C0 E b k := fun k h1 h2 => by rw [ec18, va_up_ne _ _ (by omega)]; exact hA k h1 h2
  refine lv_aload_n hx hb dX7_init_100 rfl (lv_at hl 1 rfl) ?_
  refine n_new (ci := 6) (fs := [.null, .null, .null, .int 0, .int 0, .int 0]) X hw in_X6 tyX6 tyX6_ok mw_276 mw_97 mw_55 (show vwCl[6]? = some (RX6, TX6, 6) from rfl) (fun j hj => by rcases (show j = 0 ∨ j = 1 ∨ j = 2 ∨ j = 3 ∨ j = 4 ∨ j = 5 by omega) with rfl | rfl | rfl | rfl | rfl | rfl <;> rfl) (Nat.le_of_ble_eq_true rfl) (Nat.le_of_ble_eq_true rfl) dX7_init_101 (fun H hw => ?_)
  refine lv_dup hx hb dX7_init_104 rfl ?_
  refine nN_ (As := []) (host := RX7) X hw (cn_X6_init l E b (o := 191) kk_191 (va_up_self _ _ _)) (by decide +kernel) mw_99 mw_55 mw_100 rfl hd_X6_init ⟨Nat.le_of_ble_eq_true rfl, Nat.le_of_ble_eq_true rfl, rfl, rfl⟩ rfl hl.1 rfl (Nat.le_of_ble_eq_true rfl) dX7_init_105 ⟨Nat.le_of_ble_eq_true rfl, Nat.le_of_ble_eq_true rfl⟩ (fun u H locs hu1 hu2 hw => ?_)
  obtain ⟨c19, ec19⟩ : ∃ z : Nat → va_E, z = u := ⟨_, rfl⟩
  rw [← ec19] at hw hu1 hu2
  have hA : ∀ k, 1 ≤ k → k < 195 → c19 k = C0 E b k := by
    intro k h1 h2
    by_cases hk : k < 191
    · rw [hu2 k hk, va_up_ne _ _ (by omega)]; exact hA k h1 hk
    · exact hu1 k (by omega) h2
  have hc : c19 0 = .inr (7, [.ref (b + 2), .ref (b + 1), .ref (b + 8), .ref (b + 65), .ref (b + 180), .ref (b + 181), .ref (b + 185), .null, .null, .null, .long 0]) := by rw [hu2 0 (by decide), va_up_ne _ _ (by decide)]; exact hc
  refine n_putF X hw 7 (by omega) hc in_X7 tyX7_ok nmX7 (show vwCl[7]? = some (RX7, TX7, 11) from rfl) (by decide) mw_285 rfl rfl hin rfl (ty := tyX7 7) (by decide +kernel) rfl rfl (Nat.le_of_ble_eq_true rfl) dX7_init_108 (fun H locs hw => ?_)
  obtain ⟨c20, ec20⟩ : ∃ z : Nat → va_E, z = va_up c19 0 (.inr (7, [.ref (b + 2), .ref (b + 1), .ref (b + 8), .ref (b + 65), .ref (b + 180), .ref (b + 181), .ref (b + 185), .ref (b + 191), .null, .null, .long 0])) := ⟨_, rfl⟩
  have hw : WN E b 195 c20 s H locs := by rw [ec20]; exact hw
  have hc : c20 0 = .inr (7, [.ref (b + 2), .ref (b + 1), .ref (b + 8), .ref (b + 65), .ref (b + 180), .ref (b + 181), .ref (b + 185), .ref (b + 191), .null, .null, .long 0]) := by rw [ec20, va_up_self]
  have hA : ∀ k, 1 ≤ k → k < 195 → c20 k = C0 E b k := fun k h1 h2 => by rw [ec20, va_up_ne _ _ (by omega)]; exact hA k h1 h2
  refine lv_aload_n hx hb dX7_init_111 rfl (lv_at hl 1 rfl) ?_
  refine lv_bipush (v := 10) hx hb dX7_init_112 (by decide) ?_
  refine n_newi X hw mw_95 (by decide) (show (10 : Int32).toNatClampNeg = 10 by decide) (by decide) (Nat.le_of_ble_eq_true rfl) (Nat.le_of_ble_eq_true rfl) dX7_init_114 (fun H hw => ?_)
  obtain ⟨c21, ec21⟩ : ∃ z : Nat → va_E, z = va_up c20 195 (.inl (E.2.1, 10, .inl fun _ => 0)) := ⟨_, rfl⟩
  have hw : WN E b 196 c21 s H locs := by rw [ec21]; exact hw
  have hc : c21 0 = .inr (7, [.ref (b + 2), .ref (b + 1), .ref (b + 8), .ref (b + 65), .ref (b + 180), .ref (b + 181), .ref (b + 185), .ref (b + 191), .null, .null, .long 0]) := by rw [ec21, va_up_ne _ _ (by decide)]; exact hc
  have hA : ∀ k, 1 ≤ k → k < 196 → c21 k = C0 E b k := fun k h1 h2 => by
    rw [ec21]
    by_cases hk : k = 195
    · subst hk; rw [va_up_self]; exact (C0pl E b).symm
    · rw [va_up_ne _ _ hk]; exact hA k h1 (by omega)
  refine n_putF X hw 8 (by omega) hc in_X7 tyX7_ok nmX7 (show vwCl[7]? = some (RX7, TX7, 11) from rfl) (by decide) mw_286 rfl rfl hin rfl (ty := tyX7 8) (by decide +kernel) rfl rfl (Nat.le_of_ble_eq_true rfl) dX7_init_116 (fun H locs hw => ?_)
  obtain ⟨c22, ec22⟩ : ∃ z : Nat → va_E, z = va_up c21 0 (.inr (7, [.ref (b + 2), .ref (b + 1), .ref (b + 8), .ref (b + 65), .ref (b + 180), .ref (b + 181), .ref (b + 185), .ref (b + 191), .ref (b + 195), .null, .long 0])) := ⟨_, rfl⟩
  have hw : WN E b 196 c22 s H locs := by rw [ec22]; exact hw
  have hc : c22 0 = .inr (7, [.ref (b + 2), .ref (b + 1), .ref (b + 8), .ref (b + 65), .ref (b + 180), .ref (b + 181), .ref (b + 185), .ref (b + 191), .ref (b + 195), .null, .long 0]) := by rw [ec22, va_up_self]
  have hA : ∀ k, 1 ≤ k → k < 196 → c22 k = C0 E b k := fun k h1 h2 => by rw [ec22, va_up_ne _ _ (by omega)]; exact hA k h1 h2
  refine lv_aload_n hx hb dX7_init_119 rfl (lv_at hl 1 rfl) ?_
  refine lv_bipush (v := 20) hx hb dX7_init_120 (by decide) ?_
  refine n_newi X hw mw_95 (by decide) (show (20 : Int32).toNatClampNeg = 20 by decide) (by decide) (Nat.le_of_ble_eq_true rfl) (Nat.le_of_ble_eq_true rfl) dX7_init_122 (fun H hw => ?_)
  obtain ⟨c23, ec23⟩ : ∃ z : Nat → va_E, z = va_up c22 196 (.inl (E.2.1, 20, .inl fun _ => 0)) := ⟨_, rfl⟩
  have hw : WN E b 197 c23 s H locs := by rw [ec23]; exact hw
  have hc : c23 0 = .inr (7, [.ref (b + 2), .ref (b + 1), .ref (b + 8), .ref (b + 65), .ref (b + 180), .ref (b + 181), .ref (b + 185), .ref (b + 191), .ref (b + 195), .null, .long 0]) := by rw [ec23, va_up_ne _ _ (by decide)]; exact hc
  have hA : ∀ k, 1 ≤ k → k < 197 → c23 k = C0 E b k := fun k h1 h2 => by
    rw [ec23]
    by_cases hk : k = 196
    · subst hk; rw [va_up_self]; exact (C0sh E b).symm
    · rw [va_up_ne _ _ hk]; exact hA k h1 (by omega)
  refine n_putF X hw 9 (by omega) hc in_X7 tyX7_ok nmX7 (show vwCl[7]? = some (RX7, TX7, 11) from rfl) (by decide) mw_287 rfl rfl hin rfl (ty := tyX7 9) (by decide +kernel) rfl rfl (Nat.le_of_ble_eq_true rfl) dX7_init_124 (fun H locs hw => ?_)
  obtain ⟨c24, ec24⟩ : ∃ z : Nat → va_E, z = va_up c23 0 (.inr (7, [.ref (b + 2), .ref (b + 1), .ref (b + 8), .ref (b + 65), .ref (b + 180), .ref (b + 181), .ref (b + 185), .ref (b + 191), .ref (b + 195), .ref (b + 196), .long 0])) := ⟨_, rfl⟩
  have hw : WN E b 197 c24 s H locs := by rw [ec24]; exact hw
  have hc : c24 0 = .inr (7, [.ref (b + 2), .ref (b + 1), .ref (b + 8), .ref (b + 65), .ref (b + 180), .ref (b + 181), .ref (b + 185), .ref (b + 191), .ref (b + 195), .ref (b + 196), .long 0]) := by rw [ec24, va_up_self]
  have hA : ∀ k, 1 ≤ k → k < 197 → c24 k = C0 E b k := fun k h1 h2 => by rw [ec24, va_up_ne _ _ (by omega)]; exact hA k h1 h2
  refine nE (o := 0) (K := 197) (av := #[]) X hw (fun k k1 k2 => ?_) (fun k k1 => absurd k1 (by omega)) hr hlk dX7_init_127
  by_cases hk : k = 0
  · subst hk; rw [hc]; exact (C0h_X7 E b).symm
  · exact hA k (by omega) (by omega)
theorem wn_wl {E : EE} {b : Nat} {u : Nat → va_E} (h : ∀ k, k < 212 → u k = C0 E b k) : wn b 212 u = wl E b MC0 0 MM0 0 := by
  unfold wn wl
  apply List.map_congr_left
  intro k hk
  rw [h k (List.mem_range.mp hk)]
  rfl

set_option maxHeartbeats 4000000 in
set_option maxRecDepth 100000 in
theorem law_env {s : State} {args : Array Value} (hts : ∀ w ∈ lw_tbl, w.before args s = true) : ∃ E : EE, KN E s := by
  have htw : ∀ w ∈ wt, w.before args s = true := fun w h => hts w (List.mem_filter.mp h).1
  obtain ⟨k0, i0, hK0⟩ := u_known (C := RX0) (T := TX0) (N := 5) (n := 5) htw in_X0 (htw _ mw_218)
  obtain ⟨k1, i1, hK1⟩ := u_known (C := RX1) (T := TX1) (N := 6) (n := 6) htw in_X1 (htw _ mw_170)
  obtain ⟨k2, i2, hK2⟩ := u_known (C := RX2) (T := TX2) (N := 8) (n := 8) htw in_X2 (htw _ mw_74)
  obtain ⟨k3, i3, hK3⟩ := u_known (C := RX3) (T := TX3) (N := 8) (n := 8) htw in_X3 (htw _ mw_246)
  obtain ⟨k4, i4, hK4⟩ := u_known (C := RX4) (T := TX4) (N := 2) (n := 2) htw in_X4 (htw _ mw_80)
  obtain ⟨k5, i5, hK5⟩ := u_known (C := RX5) (T := TX5) (N := 3) (n := 3) htw in_X5 (htw _ mw_164)
  obtain ⟨k6, i6, hK6⟩ := u_known (C := RX6) (T := TX6) (N := 6) (n := 6) htw in_X6 (htw _ mw_97)
  obtain ⟨k7, i7, hK7⟩ := u_known (C := RX7) (T := TX7) (N := 11) (n := 11) htw in_X7 (htw _ mw_66)
  obtain ⟨k8, i8, hK8⟩ := u_known (C := RX8) (T := TX8) (N := 31) (n := 31) htw in_X8 (htw _ mw_716)
  obtain ⟨dC, dI, hKc⟩ : ∃ (dC : Nat → ClassId) (dI : Nat → Nat → Nat), ∀ (k : Nat) (q : vw_C), vwCl[k]? = some q → u_Kn s q.1 q.2.1 q.2.2 (dC k) (dI k) := by
    refine ⟨fun k => if k = 0 then k0 else if k = 1 then k1 else if k = 2 then k2 else if k = 3 then k3 else if k = 4 then k4 else if k = 5 then k5 else if k = 6 then k6 else if k = 7 then k7 else k8, fun k => if k = 0 then i0 else if k = 1 then i1 else if k = 2 then i2 else if k = 3 then i3 else if k = 4 then i4 else if k = 5 then i5 else if k = 6 then i6 else if k = 7 then i7 else i8, ?_⟩
    intro k q hq
    match k, hq with
    | 0, hq => cases hq; exact hK0
    | 1, hq => cases hq; exact hK1
    | 2, hq => cases hq; exact hK2
    | 3, hq => cases hq; exact hK3
    | 4, hq => cases hq; exact hK4
    | 5, hq => cases hq; exact hK5
    | 6, hq => cases hq; exact hK6
    | 7, hq => cases hq; exact hK7
    | 8, hq => cases hq; exact hK8
    | k + 9, hq => simp [vwCl] at hq
  obtain ⟨cI, kI, compI, f1, f2, f3⟩ := Cond.arrayClass_spec (htw _ mw_95)
  obtain ⟨cZ, kZ, compZ, g1, g2, g3⟩ := Cond.arrayClass_spec (htw _ mw_244)
  have ho1 : va_AO RX1 s := va_AO.of (hts _ (List.mem_of_getElem? (i := 203) (by decide +kernel)))
  have ho5 : va_AO RX5 s := va_AO.of (hts _ (List.mem_of_getElem? (i := 216) (by decide +kernel)))
  obtain ⟨cmp1, cM, kM, m1, m2, m3, m4, m5⟩ := Cond.arrayOver_spec ho1
  obtain ⟨cmp5, cT, kT, t1, t2, t3, t4, t5⟩ := Cond.arrayOver_spec ho5
  refine ⟨((dC, dI), cI, cZ, cM, cT), ⟨⟨hKc, fun k q hk => ?_⟩, fun q hq => ?_⟩, fun q hq => ?_, ho1, ho5⟩
  · match k, hk with
    | 0, hk => cases hk; exact ⟨fun n z => ⟨fun k h => (by cases h), kI, f2, compI, f3⟩, f1⟩
    | 1, hk => cases hk; exact ⟨fun n z => ⟨fun k h => (by cases h), kZ, g2, compZ, g3⟩, g1⟩
    | 2, hk => cases hk; exact ⟨fun n z => ⟨fun k h => (by cases h), kM, m3, cmp1, m4⟩, kM, cmp1, m3, m4, m1, m5⟩
    | 3, hk => cases hk; exact ⟨fun n z => ⟨fun k h => (by cases h), kT, t3, cmp5, t4⟩, kT, cmp5, t3, t4, t1, t5⟩
    | k + 4, hk => simp [tysE] at hk
  · simp only [nestW, List.mem_cons, List.not_mem_nil, or_false] at hq
    subst hq
    exact va_Nw.of rfl (hts _ (List.mem_of_getElem? (i := 372) (by decide +kernel)))
  · simp only [nestI, List.mem_cons, List.not_mem_nil, or_false] at hq
    rcases hq with rfl | rfl | rfl | rfl | rfl | rfl
    · exact va_Nw.of rfl (hts _ (List.mem_of_getElem? (i := 75) (by decide +kernel)))
    · exact va_Nw.of rfl (hts _ (List.mem_of_getElem? (i := 81) (by decide +kernel)))
    · exact va_Nw.of rfl (hts _ (List.mem_of_getElem? (i := 98) (by decide +kernel)))
    · exact va_Nw.of rfl (hts _ (List.mem_of_getElem? (i := 219) (by decide +kernel)))
    · exact va_Nw.of rfl (hts _ (List.mem_of_getElem? (i := 247) (by decide +kernel)))
    · exact va_Nw.of rfl (hts _ (List.mem_of_getElem? (i := 277) (by decide +kernel)))
set_option maxHeartbeats 4000000 in
set_option maxRecDepth 100000 in
theorem law_open {I : Mem → Int64 → Mem → Int64 → Prop} (hS : SimAll I) (hI : I MC0 0 MM0 0) {p : Program} {e : Env} {s : State} {m : MethodId} {below : List Frame} {meth : Method} {c : Code} (l : Launch) {b L : Nat} {xs : Nat → Int32} (hL : L ≤ 320) (C1 : lw_At p s m meth c b L xs) : W p l e room_1 s m #[Value.ref b] below meth c s.heap [] 0 0 (lw_Z below #[Value.ref b] s) (entryFrame m ([Value.ref b] : List Value).toArray 4) := by
  obtain ⟨hx, hb, hr, hml, hown, hts, hX, hbl, hlocks, hgv⟩ := id C1
  obtain ⟨E, hK⟩ := law_env hts
  obtain ⟨bb, hbb⟩ : ∃ bb, bb = s.heap.size := ⟨_, rfl⟩
  have X : CN E p s m #[Value.ref b] c code 4 RL := ⟨hx, hb, hml, hown, fun w h => hts w (List.mem_filter.mp h).1, hK⟩
  have hw : WN E bb 0 (fun _ => .inr (0, [])) s s.heap [] := ⟨fun k q h => by simp [wn] at h, hbb.symm, va_S.rf⟩
  have hl := lv_entry ([.ref b]) (n := 4) (Nat.le_of_ble_eq_true rfl)
  rw [lg_entry_eq]
  generalize (lg_sl ([.ref b]) ++ List.replicate (4 - (lg_sl ([.ref b])).length) Slot.unset).toArray = ls at hl ⊢
  have hl : lv_has ls 4 [(0, .ref b)] := hl
  refine n_new (ci := 7) (fs := [.null, .null, .null, .null, .null, .null, .null, .null, .null, .null, .long 0]) X hw in_X7 tyX7 tyX7_ok mw_65 mw_66 mw_52 (show vwCl[7]? = some (RX7, TX7, 11) from rfl) (fun j hj => by rcases (show j = 0 ∨ j = 1 ∨ j = 2 ∨ j = 3 ∨ j = 4 ∨ j = 5 ∨ j = 6 ∨ j = 7 ∨ j = 8 ∨ j = 9 ∨ j = 10 by omega) with rfl | rfl | rfl | rfl | rfl | rfl | rfl | rfl | rfl | rfl | rfl <;> rfl) (Nat.le_of_ble_eq_true rfl) (Nat.le_of_ble_eq_true rfl) dL_law_0 (fun H hw => ?_)
  refine lv_dup hx hb dL_law_3 rfl ?_
  refine nI_ (As := []) X hw (cn_X7_init l E bb (va_up_self _ _ _)) mw_67 mw_68 mw_52 mw_69 rfl hd_X7_init ⟨Nat.le_of_ble_eq_true rfl, Nat.le_of_ble_eq_true rfl, rfl, rfl⟩ rfl hl.1 rfl (Nat.le_of_ble_eq_true rfl) dL_law_4 ⟨Nat.le_of_ble_eq_true rfl, Nat.le_of_ble_eq_true rfl⟩ (fun u H locs hu1 hu2 hw => ?_)
  refine lv_astore_n (lv' := [(1, .ref (bb + 0)), (0, .ref b)]) hx hb dL_law_7 rfl hl (by decide) rfl (fun ls hl => ?_)
  refine n_new (ci := 8) (fs := [.int 0, .null, .null, .null, .int 0, .null, .null, .null, .int 0, .null, .int 0, .null, .long 0, .null, .int 0, .int 0, .int 0, .int 0, .int 0, .int 0, .int 0, .int 0, .null, .null, .null, .int 0, .int 0, .null, .int 0, .int 0, .null]) X hw in_X8 tyX8 tyX8_ok mw_715 mw_716 mw_61 (show vwCl[8]? = some (RX8, TX8, 31) from rfl) (fun j hj => by rcases (show j = 0 ∨ j = 1 ∨ j = 2 ∨ j = 3 ∨ j = 4 ∨ j = 5 ∨ j = 6 ∨ j = 7 ∨ j = 8 ∨ j = 9 ∨ j = 10 ∨ j = 11 ∨ j = 12 ∨ j = 13 ∨ j = 14 ∨ j = 15 ∨ j = 16 ∨ j = 17 ∨ j = 18 ∨ j = 19 ∨ j = 20 ∨ j = 21 ∨ j = 22 ∨ j = 23 ∨ j = 24 ∨ j = 25 ∨ j = 26 ∨ j = 27 ∨ j = 28 ∨ j = 29 ∨ j = 30 by omega) with rfl | rfl | rfl | rfl | rfl | rfl | rfl | rfl | rfl | rfl | rfl | rfl | rfl | rfl | rfl | rfl | rfl | rfl | rfl | rfl | rfl | rfl | rfl | rfl | rfl | rfl | rfl | rfl | rfl | rfl | rfl <;> rfl) (Nat.le_of_ble_eq_true rfl) (Nat.le_of_ble_eq_true rfl) dL_law_8 (fun H hw => ?_)
  refine lv_dup hx hb dL_law_11 rfl ?_
  refine nI_ (As := []) X hw (cn_X8_init l E bb (va_up_self _ _ _)) mw_717 mw_718 mw_61 mw_719 rfl hd_X8_init ⟨Nat.le_of_ble_eq_true rfl, Nat.le_of_ble_eq_true rfl, rfl, rfl⟩ rfl hl.1 rfl (Nat.le_of_ble_eq_true rfl) dL_law_12 ⟨Nat.le_of_ble_eq_true rfl, Nat.le_of_ble_eq_true rfl⟩ (fun v H locs hv1 hv2 hw => ?_)
  refine lv_astore_n (lv' := [(2, .ref (bb + 197)), (1, .ref (bb + 0)), (0, .ref b)]) hx hb dL_law_15 rfl hl (by decide) rfl (fun ls hl => ?_)
  refine lv_iconst (v := 0) hx hb dL_law_16 (by decide) ?_
  refine lv_istore_n (lv' := [(3, .int 0), (2, .ref (bb + 197)), (1, .ref (bb + 0)), (0, .ref b)]) hx hb dL_law_17 rfl hl (by decide) rfl (fun ls hl => ?_)
  have hall : ∀ k, k < 212 → v k = C0 E bb k := by
    intro k hk
    by_cases h : k < 197
    · rw [hv2 k h, va_up_ne _ _ (by omega)]; exact hu1 k (by omega) h
    · exact hv1 k (by omega) (by omega)
  have hw2 : WW E bb MC0 0 MM0 0 s H locs := ⟨by rw [RW, ← wn_wl hall]; exact hw.1, hw.2.2⟩
  refine W.widen (k := 600000) (n := 7302250) (by decide) (by decide) ?_
  exact law_loop hL hr hlocks hbb ⟨hx, hb, hml, hown, X.2.2.2.2.1, hK.1⟩ hX hbl (by rw [hbb]; exact Nat.not_le.mpr hbl) hS (L + 1) 0 (by omega) 0 nI_0.symm (by omega) ls (lv_sub hl [3, 2, 1, 0] rfl) MC0 0 MM0 0 H locs hI hw2
