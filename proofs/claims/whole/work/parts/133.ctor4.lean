abbrev rmX2_init : Room := { frames := 2, cells := 6, slots := 173, locals := 60 }
theorem hd_X2_init : Hd yX2_init RX2 0 := by decide +kernel
theorem C0h_X2 (E : EE) (b : Nat) : C0 E b 1 = .inr (2, [.ref (b + 2), .ref (b + 4), .int 0, .int 0, .int 0, .int 0, .int 0, .int 0]) := by rw [C0, ce_X2 E _ _ _ _ kk_1]; simp [MC0, show iv 1 = 0 by decide]
set_option maxHeartbeats 4000000 in
set_option maxRecDepth 100000 in
theorem cn_X2_init (l : Launch) (E : EE) (b : Nat) {c : Nat → va_E} (hc : c 1 = .inr (2, [.null, .null, .int 0, .int 0, .int 0, .int 0, .int 0, .int 0])) : Met l yX2_init (.code yX2_init cX2_init 1 none :: wt) rmX2_init (va_Pc [.ref (b + 1)] (PN E b 2 c)) (NQ E b 2 7 (C0 E b) 1 c) 6 173 (AA b) := by
  refine Met.ofW (cc := cX2_init) (maxL := 1) (ret := none) (by decide) rfl ?_
  intro p e s m args below meth c0' s₁ B hml hv
  obtain ⟨rfl, hP, hz, hK⟩ := hv
  have hx := B.exec
  have hb := B.bytes
  have X : CN E p s m _ c0' cX2_init 1 RX2 := ⟨hx, hb, hml, findClass_of_methodNamed B.named, fun w h => atoms_spec (ws := _ :: wt) B.pre w (List.mem_cons_of_mem _ h), hK⟩
  have hr := B.returns
  have hlk := B.notSynchronized
  have hin : meth.name = "<init>" := (name_of_methodNamed B.named B.method).1
  have hw : WN E b (2) c s s.heap [] := ⟨hP, hz, va_S.rf⟩
  have hl := lv_entry ([.ref (b + 1)]) (n := 1) (Nat.le_of_ble_eq_true rfl)
  rw [lg_entry_eq]
  generalize (lg_sl ([.ref (b + 1)]) ++ List.replicate (1 - (lg_sl ([.ref (b + 1)])).length) Slot.unset).toArray = ls at hl ⊢
  have hl : lv_has ls 1 [(0, .ref (b + 1))] := hl
  obtain ⟨H, hH⟩ : ∃ H, H = s.heap := ⟨_, rfl⟩
  obtain ⟨locs, hL⟩ : ∃ L : List Loc, L = [] := ⟨_, rfl⟩
  rw [← hH, ← hL] at hw
  suffices hg : W p l e rmX2_init s m _ below meth c0' H locs 0 0 (MQ below (NQ E b (2) 7 (C0 E b) (1) c) _ s 6 173 (AA b)) (F0 m 0 ls []) by rw [hH, hL] at hg; exact hg
  clear hH hL
  refine lv_aload_n hx hb dX2_init_0 rfl (lv_at hl 0 rfl) ?_
  refine n_obj X mw_78 mw_71 mw_72 hl.1 dX2_init_1 (Nat.le_of_ble_eq_true rfl) (Nat.le_of_ble_eq_true rfl) ?_
  refine lv_aload_n hx hb dX2_init_4 rfl (lv_at hl 0 rfl) ?_
  refine n_new (ci := 4) (fs := [.null, .int 0]) X hw in_X4 tyX4 tyX4_ok mw_79 mw_80 mw_54 (show vwCl[4]? = some (RX4, TX4, 2) from rfl) (fun j hj => by rcases (show j = 0 ∨ j = 1 by omega) with rfl | rfl <;> rfl) (Nat.le_of_ble_eq_true rfl) (Nat.le_of_ble_eq_true rfl) dX2_init_5 (fun H hw => ?_)
  refine lv_dup hx hb dX2_init_8 rfl ?_
  refine nN_ (As := []) (host := RX7) X hw (cn_X4_init l E b (va_up_self _ _ _)) (by decide +kernel) mw_82 mw_54 mw_83 rfl hd_X4_init ⟨Nat.le_of_ble_eq_true rfl, Nat.le_of_ble_eq_true rfl, rfl, rfl⟩ rfl hl.1 rfl (Nat.le_of_ble_eq_true rfl) dX2_init_9 ⟨Nat.le_of_ble_eq_true rfl, Nat.le_of_ble_eq_true rfl⟩ (fun u H locs hu1 hu2 hw => ?_)
  obtain ⟨c1, ec1⟩ : ∃ z : Nat → va_E, z = u := ⟨_, rfl⟩
  rw [← ec1] at hw hu1 hu2
  have hb1 : ∀ k, k < 1 → c1 k = c k := fun k h => by rw [hu2 k (by omega), va_up_ne _ _ (by omega)]
  have hd1 : ∀ k, 2 ≤ k → k < 4 → c1 k = C0 E b k := fun k h1 h2 => hu1 k h1 (by omega)
  have hc1 : c1 1 = .inr (2, [.null, .null, .int 0, .int 0, .int 0, .int 0, .int 0, .int 0]) := by rw [hu2 1 (by decide), va_up_ne _ _ (by decide)]; exact hc
  clear hu1 hu2
  refine n_putF X hw 0 (by omega) hc1 in_X2 tyX2_ok nmX2 (show vwCl[2]? = some (RX2, TX2, 8) from rfl) (by decide) mw_136 rfl rfl hin rfl (ty := tyX2 0) (by decide +kernel) rfl rfl (Nat.le_of_ble_eq_true rfl) dX2_init_12 (fun H locs hw => ?_)
  obtain ⟨c2, ec2⟩ : ∃ z : Nat → va_E, z = va_up c1 1 (.inr (2, [.ref (b + 2), .null, .int 0, .int 0, .int 0, .int 0, .int 0, .int 0])) := ⟨_, rfl⟩
  have hw : WN E b 4 c2 s H locs := by rw [ec2]; exact hw
  have hb2 : ∀ k, k < 1 → c2 k = c k := fun k h => by rw [ec2, va_up_ne _ _ (by omega)]; exact hb1 k h
  have hd2 : ∀ k, 2 ≤ k → k < 4 → c2 k = C0 E b k := fun k h1 h2 => by rw [ec2, va_up_ne _ _ (by omega)]; exact hd1 k h1 h2
  have hc2 : c2 1 = .inr (2, [.ref (b + 2), .null, .int 0, .int 0, .int 0, .int 0, .int 0, .int 0]) := by rw [ec2, va_up_self]
  refine lv_aload_n hx hb dX2_init_15 rfl (lv_at hl 0 rfl) ?_
  refine n_new (ci := 6) (fs := [.null, .null, .null, .int 0, .int 0, .int 0]) X hw in_X6 tyX6 tyX6_ok mw_96 mw_97 mw_55 (show vwCl[6]? = some (RX6, TX6, 6) from rfl) (fun j hj => by rcases (show j = 0 ∨ j = 1 ∨ j = 2 ∨ j = 3 ∨ j = 4 ∨ j = 5 by omega) with rfl | rfl | rfl | rfl | rfl | rfl <;> rfl) (Nat.le_of_ble_eq_true rfl) (Nat.le_of_ble_eq_true rfl) dX2_init_16 (fun H hw => ?_)
  refine lv_dup hx hb dX2_init_19 rfl ?_
  refine nN_ (As := []) (host := RX7) X hw (cn_X6_init l E b (o := 4) kk_4 (va_up_self _ _ _)) (by decide +kernel) mw_99 mw_55 mw_100 rfl hd_X6_init ⟨Nat.le_of_ble_eq_true rfl, Nat.le_of_ble_eq_true rfl, rfl, rfl⟩ rfl hl.1 rfl (Nat.le_of_ble_eq_true rfl) dX2_init_20 ⟨Nat.le_of_ble_eq_true rfl, Nat.le_of_ble_eq_true rfl⟩ (fun u H locs hu1 hu2 hw => ?_)
  obtain ⟨c3, ec3⟩ : ∃ z : Nat → va_E, z = u := ⟨_, rfl⟩
  rw [← ec3] at hw hu1 hu2
  have hb3 : ∀ k, k < 1 → c3 k = c k := fun k h => by rw [hu2 k (by omega), va_up_ne _ _ (by omega)]; exact hb2 k h
  have hd3 : ∀ k, 2 ≤ k → k < 8 → c3 k = C0 E b k := fun k h1 h2 => by
    by_cases hk : k < 4
    · rw [hu2 k hk, va_up_ne _ _ (by omega)]; exact hd2 k h1 hk
    · exact hu1 k (by omega) (by omega)
  have hc3 : c3 1 = .inr (2, [.ref (b + 2), .null, .int 0, .int 0, .int 0, .int 0, .int 0, .int 0]) := by rw [hu2 1 (by decide), va_up_ne _ _ (by decide)]; exact hc2
  clear hu1 hu2
  refine n_putF X hw 1 (by omega) hc3 in_X2 tyX2_ok nmX2 (show vwCl[2]? = some (RX2, TX2, 8) from rfl) (by decide) mw_138 rfl rfl hin rfl (ty := tyX2 1) (by decide +kernel) rfl rfl (Nat.le_of_ble_eq_true rfl) dX2_init_23 (fun H locs hw => ?_)
  refine nE (o := 1) (K := 7) (av := #[]) X hw (fun k k1 k2 => ?_) (fun k k1 => ?_) hr hlk dX2_init_26
  · by_cases hk : k = 1
    · subst hk; rw [va_up_self]; exact (C0h_X2 E b).symm
    · rw [va_up_ne _ _ hk]; exact hd3 k (by omega) (by omega)
  · rw [va_up_ne _ _ (by omega)]; exact hb3 k k1
abbrev rmX5_init : Room := { frames := 3, cells := 56, slots := 1286, locals := 80 }
theorem hd_X5_init : Hd yX5_init RX5 0 := by decide +kernel
theorem kt_X5 {o : Nat} (h : (kd o).1 = 7) {i : Nat} (hi : i < 10) : (kd (o + 7 + 5 * i)).1 = 3 := (show ∀ o, o < 212 → (kd o).1 = 7 → ∀ i, i < 10 → (kd (o + 7 + 5 * i)).1 = 3 by decide +kernel) o (kd_lt (by rw [h]; decide)) h i hi
theorem iv_X5 {o : Nat} (h : (kd o).1 = 7) : iv o = 0 ∧ iv (o + 6) = 3 := (show ∀ o, o < 212 → (kd o).1 = 7 → iv o = 0 ∧ iv (o + 6) = 3 by decide +kernel) o (kd_lt (by rw [h]; decide)) h
theorem C0h_X5 (E : EE) (b : Nat) {o : Nat} (h0 : (kd o).1 = 7) : C0 E b o = .inr (5, [.ref (b + (o + 1)), .ref (b + (o + 6)), .int 0]) := by rw [C0, ce_X5 E _ _ _ _ h0]; simp [MC0, (iv_X5 h0).1]
theorem C0p_X5 (E : EE) (b : Nat) {o : Nat} (h0 : (kd o).1 = 7) : C0 E b (o + 6) = .inl (E.2.2.2.1, 10, .inr (.inr (.inr (.inr (fun i => some (b + (nI (o + 6 + 1 + 5 * i)).toNatClampNeg)))))) := by rw [C0, ce_11 E _ _ _ _ (kr_X5_1 h0)]; simp [MC0, (iv_X5 h0).2]
set_option maxHeartbeats 4000000 in
set_option maxRecDepth 100000 in
theorem times_loop {p : Program} {l : Launch} {e : Env} {s : State} {m : MethodId} {args : Array Value} {below : List Frame} {meth : Method} {c0' : Code} {E : EE} {b o : Nat} {cc : Nat → va_E} (X : CN E p s m args c0' cX5_init 2 RX5) (hr : meth.sig.returnType = none) (hlk : meth.locks = false) (h0 : (kd o).1 = 7) : ∀ (n i : Nat), 10 = i + n → ∀ (c : Nat → va_E) (f : Nat → Option Nat), c o = .inr (5, [.ref (b + (o + 1)), .ref (b + (o + 6)), .int 0]) → c (o + 6) = .inl (E.2.2.2.1, 10, .inr (.inr (.inr (.inr f)))) → (∀ j, j < i → f j = some (b + (o + 7 + 5 * j))) → (∀ k, o + 1 ≤ k → k < o + 6 → c k = C0 E b k) → (∀ k, o + 7 ≤ k → k < o + 7 + 5 * i → c k = C0 E b k) → (∀ k, k < o → c k = cc k) → ∀ (x1 : Int32), x1 = nI i → ∀ (H : Heap) (locs : List Loc) (ls : Array Slot), WN E b (o + 7 + 5 * i) c s H locs → lv_has ls 2 [(0, .ref (b + o)), (1, .int x1)] → W p l e rmX5_init s m args below meth c0' H locs (6 + 5 * i) (126 + 116 * i) (MQ below (NQ E b (o + 1) 57 (C0 E b) o cc) args s 56 1286 (AA b)) (F0 m 26 ls []) := by
  have hx := X.1
  have hb := X.2.1
  intro n
  induction n with
  | zero =>
    intro i hi c f hc hp hf hA hB hC x1 e1 H locs ls hw hl
    have hi : i = 10 := by omega
    subst hi
    refine lv_iload_n hx hb dX5_init_26 rfl (lv_at hl 1 rfl) ?_
    refine lv_bipush (v := 10) hx hb dX5_init_27 (by decide) ?_
    refine lv_icmp_ge (tgt := 51) hx hb dX5_init_29 (by decide) (fun q => ?_) (fun q => absurd (by rw [e1]; decide) q)
    have hw2 := WN_extq (g := fun i => some (b + (nI (o + 6 + 1 + 5 * i)).toNatClampNeg)) hw (by omega) hp (fun j hj => by rw [hf j hj, nI_clamp (by have := kd_lt (o := o) (by rw [h0]; decide); omega)])
    refine nE (o := o) (K := 57) (av := #[]) X hw2 (fun k k1 k2 => ?_) (fun k k1 => ?_) hr hlk dX5_init_51
    · by_cases hk : k = o + 6
      · subst hk; rw [va_up_self]; exact (C0p_X5 E b h0).symm
      · rw [va_up_ne _ _ hk]
        by_cases hk2 : k = o
        · subst hk2; rw [hc]; exact (C0h_X5 E b h0).symm
        · by_cases hk3 : k < o + 6
          · exact hA k (by omega) hk3
          · exact hB k (by omega) (by omega)
    · rw [va_up_ne _ _ (by omega)]; exact hC k k1
  | succ n ih =>
    intro i hi c f hc hp hf hA hB hC x1 e1 H locs ls hw hl
    refine lv_iload_n hx hb dX5_init_26 rfl (lv_at hl 1 rfl) ?_
    refine lv_bipush (v := 10) hx hb dX5_init_27 (by decide) ?_
    refine lv_icmp_ge (tgt := 51) hx hb dX5_init_29 (by decide) (fun q => absurd q (by rw [e1]; exact nI_ge (a := i) (b := 10) (by omega) (by omega))) (fun q => ?_)
    refine lv_aload_n hx hb dX5_init_32 rfl (lv_at hl 0 rfl) ?_
    refine n_get X hw 1 (by omega) hc in_X5 (show vwCl[5]? = some (RX5, TX5, 3) from rfl) (by decide) mw_206 rfl rfl dX5_init_33 ?_
    refine lv_iload_n hx hb dX5_init_36 rfl (lv_at hl 1 rfl) ?_
    refine n_new (ci := 1) (fs := [.null, .null, .null, .null, .int 0, .int 0]) X hw in_X1 tyX1 tyX1_ok mw_169 mw_170 mw_57 (show vwCl[1]? = some (RX1, TX1, 6) from rfl) (fun j hj => by rcases (show j = 0 ∨ j = 1 ∨ j = 2 ∨ j = 3 ∨ j = 4 ∨ j = 5 by omega) with rfl | rfl | rfl | rfl | rfl | rfl <;> rfl) (by show _ ≤ 56; omega) (by show _ ≤ 1286; omega) dX5_init_37 (fun H hw => ?_)
    refine lv_dup hx hb dX5_init_40 rfl ?_
    refine nI_ (As := []) X hw (cn_X1_init l E b (kt_X5 h0 (i := i) (by omega)) (va_up_self _ _ _)) mw_171 mw_172 mw_57 mw_173 rfl hd_X1_init ⟨Nat.le_of_ble_eq_true rfl, Nat.le_of_ble_eq_true rfl, rfl, rfl⟩ rfl hl.1 rfl (Nat.le_of_ble_eq_true rfl) dX5_init_41 ⟨by show _ ≤ 56; omega, by show _ ≤ 1286; omega⟩ (fun u H locs hu1 hu2 hw => ?_)
    have q1 : u (o + 6) = .inl (E.2.2.2.1, 10, .inr (.inr (.inr (.inr f)))) := by rw [hu2 _ (by omega), va_up_ne _ _ (by omega)]; exact hp
    have q2 : u (o + 7 + 5 * i) = .inr (1, [.ref (b + (o + 7 + 5 * i + 1)), .ref (b + (o + 7 + 5 * i + 2)), .ref (b + (o + 7 + 5 * i + 3)), .ref (b + (o + 7 + 5 * i + 4)), .int 0, .int 0]) := by rw [hu1 _ (by omega) (by omega)]; exact C0h_X1 E b (kt_X5 h0 (by omega))
    refine n_aast X hw 2 (r := (RX1, TX1, 6)) rfl (by omega) q1 (by omega) q2 rfl (by rw [e1]; exact vp_in_nI (by omega) (by omega)) dX5_init_44 (fun H locs hw => ?_)
    obtain ⟨y1, ey⟩ : ∃ y : Int32, y = x1 + 1 := ⟨_, rfl⟩
    refine lv_iinc (v := y1) (lv' := [(1, .int y1), (0, .ref (b + o))]) hx hb dX5_init_45 hl (k := 1) rfl (by rw [ey]; rfl) (by decide) rfl (fun ls hl => ?_)
    refine lv_goto (tgt := 26) hx hb dX5_init_48 (by decide) ?_
    refine W.widen (k := 6 + 5 * (i + 1)) (n := 126 + 116 * (i + 1)) (by omega) (by omega) ?_
    refine ih (i + 1) (by omega) _ _ ?_ (va_up_self _ _ _) (fun j hj => ?_) (fun k k1 k2 => ?_) (fun k k1 k2 => ?_) (fun k k1 => ?_) y1 (by rw [ey, e1]; exact nI_1 i) H locs ls hw (lv_sub hl [1, 0] rfl)
    · rw [va_up_ne _ _ (by omega), hu2 _ (by omega), va_up_ne _ _ (by omega)]; exact hc
    · rw [e1, nI_clamp (by omega)]
      by_cases hj2 : j = i
      · subst hj2; rw [va_up_self]
      · rw [va_up_ne _ _ hj2]; exact hf j (by omega)
    · rw [va_up_ne _ _ (by omega), hu2 _ (by omega), va_up_ne _ _ (by omega)]; exact hA k k1 k2
    · rw [va_up_ne _ _ (by omega)]
      by_cases hk : k < o + 7 + 5 * i
      · rw [hu2 _ hk, va_up_ne _ _ (by omega)]; exact hB k k1 hk
      · exact hu1 k (by omega) (by omega)
    · rw [va_up_ne _ _ (by omega), hu2 _ (by omega), va_up_ne _ _ (by omega)]; exact hC k k1
set_option maxHeartbeats 4000000 in
set_option maxRecDepth 100000 in
theorem cn_X5_init (l : Launch) (E : EE) (b : Nat) {o : Nat} (h0 : (kd o).1 = 7) {c : Nat → va_E} (hc : c o = .inr (5, [.null, .null, .int 0])) : Met l yX5_init (.code yX5_init cX5_init 2 none :: wt) rmX5_init (va_Pc [.ref (b + o)] (PN E b (o + 1) c)) (NQ E b (o + 1) 57 (C0 E b) o c) 56 1286 (AA b) := by
  refine Met.ofW (cc := cX5_init) (maxL := 2) (ret := none) (by decide) rfl ?_
  intro p e s m args below meth c0' s₁ B hml hv
  obtain ⟨rfl, hP, hz, hK⟩ := hv
  have hx := B.exec
  have hb := B.bytes
  have X : CN E p s m _ c0' cX5_init 2 RX5 := ⟨hx, hb, hml, findClass_of_methodNamed B.named, fun w h => atoms_spec (ws := _ :: wt) B.pre w (List.mem_cons_of_mem _ h), hK⟩
  have hr := B.returns
  have hlk := B.notSynchronized
  have hin : meth.name = "<init>" := (name_of_methodNamed B.named B.method).1
  have hw : WN E b (o + 1) c s s.heap [] := ⟨hP, hz, va_S.rf⟩
  have hl := lv_entry ([.ref (b + o)]) (n := 2) (Nat.le_of_ble_eq_true rfl)
  rw [lg_entry_eq]
  generalize (lg_sl ([.ref (b + o)]) ++ List.replicate (2 - (lg_sl ([.ref (b + o)])).length) Slot.unset).toArray = ls at hl ⊢
  have hl : lv_has ls 2 [(0, .ref (b + o))] := hl
  obtain ⟨H, hH⟩ : ∃ H, H = s.heap := ⟨_, rfl⟩
  obtain ⟨locs, hL⟩ : ∃ L : List Loc, L = [] := ⟨_, rfl⟩
  rw [← hH, ← hL] at hw
  suffices hg : W p l e rmX5_init s m _ below meth c0' H locs 0 0 (MQ below (NQ E b (o + 1) 57 (C0 E b) (o) c) _ s 56 1286 (AA b)) (F0 m 0 ls []) by rw [hH, hL] at hg; exact hg
  clear hH hL
  refine lv_aload_n hx hb dX5_init_0 rfl (lv_at hl 0 rfl) ?_
  refine n_obj X mw_168 mw_71 mw_72 hl.1 dX5_init_1 (Nat.le_of_ble_eq_true rfl) (Nat.le_of_ble_eq_true rfl) ?_
  refine lv_aload_n hx hb dX5_init_4 rfl (lv_at hl 0 rfl) ?_
  refine n_new (ci := 1) (fs := [.null, .null, .null, .null, .int 0, .int 0]) X hw in_X1 tyX1 tyX1_ok mw_169 mw_170 mw_57 (show vwCl[1]? = some (RX1, TX1, 6) from rfl) (fun j hj => by rcases (show j = 0 ∨ j = 1 ∨ j = 2 ∨ j = 3 ∨ j = 4 ∨ j = 5 by omega) with rfl | rfl | rfl | rfl | rfl | rfl <;> rfl) (Nat.le_of_ble_eq_true rfl) (Nat.le_of_ble_eq_true rfl) dX5_init_5 (fun H hw => ?_)
  refine lv_dup hx hb dX5_init_8 rfl ?_
  refine nI_ (As := []) X hw (cn_X1_init l E b (kr_X5_0 h0) (va_up_self _ _ _)) mw_171 mw_172 mw_57 mw_173 rfl hd_X1_init ⟨Nat.le_of_ble_eq_true rfl, Nat.le_of_ble_eq_true rfl, rfl, rfl⟩ rfl hl.1 rfl (Nat.le_of_ble_eq_true rfl) dX5_init_9 ⟨Nat.le_of_ble_eq_true rfl, Nat.le_of_ble_eq_true rfl⟩ (fun u H locs hu1 hu2 hw => ?_)
  have hc1 : u o = .inr (5, [.null, .null, .int 0]) := by rw [hu2 _ (by omega), va_up_ne _ _ (by omega)]; exact hc
  refine n_putF X hw 0 (by omega) hc1 in_X5 tyX5_ok nmX5 (show vwCl[5]? = some (RX5, TX5, 3) from rfl) (by decide) mw_204 rfl rfl hin rfl (ty := tyX5 0) (by decide +kernel) rfl rfl (Nat.le_of_ble_eq_true rfl) dX5_init_12 (fun H locs hw => ?_)
  refine lv_aload_n hx hb dX5_init_15 rfl (lv_at hl 0 rfl) ?_
  refine lv_bipush (v := 10) hx hb dX5_init_16 (by decide) ?_
  refine n_newq X hw 2 rfl mw_169 X.2.2.2.2.2.2.2.1 (by decide) (show (10 : Int32).toNatClampNeg = 10 by decide) (by decide) (Nat.le_of_ble_eq_true rfl) (Nat.le_of_ble_eq_true rfl) dX5_init_18 (fun H hw => ?_)
  refine n_putF (fs := [.ref (b + (o + 1)), .null, .int 0]) X hw 1 (by omega) (by rw [va_up_ne _ _ (by omega), va_up_self]; rfl) in_X5 tyX5_ok nmX5 (show vwCl[5]? = some (RX5, TX5, 3) from rfl) (by decide) mw_206 rfl rfl hin rfl (ty := tyX5 1) (by decide +kernel) rfl rfl (Nat.le_of_ble_eq_true rfl) dX5_init_21 (fun H locs hw => ?_)
  refine lv_iconst (v := 0) hx hb dX5_init_24 (by decide) ?_
  refine lv_istore_n (lv' := [(1, .int 0), (0, .ref (b + o))]) hx hb dX5_init_25 rfl hl (by decide) rfl (fun ls hl => ?_)
  refine times_loop X hr hlk h0 10 0 (by omega) _ (fun _ => none) (va_up_self _ _ _) ?_ (fun j hj => absurd hj (by omega)) (fun k k1 k2 => ?_) (fun k k1 k2 => absurd k2 (by omega)) (fun k k1 => ?_) 0 nI_0.symm H locs ls hw (lv_sub hl [1, 0] rfl)
  · rw [va_up_ne _ _ (by omega)]; exact va_up_self _ _ _
  · rw [va_up_ne _ _ (by omega), va_up_ne _ _ (by omega), va_up_ne _ _ (by omega)]; exact hu1 k k1 (by omega)
  · rw [va_up_ne _ _ (by omega), va_up_ne _ _ (by omega), va_up_ne _ _ (by omega), hu2 k (by omega), va_up_ne _ _ (by omega)]
