def ivL : List Nat := [0, 0, 0, 0, 2, 0, 0, 0, 0, 0, 0, 1, 0, 0, 3, 0, 0, 1, 0, 0, 0, 0, 1, 0, 0, 0, 0, 1, 0, 0, 0, 0, 1, 0, 0, 0, 0, 1, 0, 0, 0, 0, 1, 0, 0, 0, 0, 1, 0, 0, 0, 0, 1, 0, 0, 0, 0, 1, 0, 0, 0, 0, 1, 0, 0, 4, 0, 0, 0, 1, 0, 0, 3, 0, 0, 1, 0, 0, 0, 0, 1, 0, 0, 0, 0, 1, 0, 0, 0, 0, 1, 0, 0, 0, 0, 1, 0, 0, 0, 0, 1, 0, 0, 0, 0, 1, 0, 0, 0, 0, 1, 0, 0, 0, 0, 1, 0, 0, 0, 0, 1, 0, 0, 0, 0, 0, 1, 0, 0, 3, 0, 0, 1, 0, 0, 0, 0, 1, 0, 0, 0, 0, 1, 0, 0, 0, 0, 1, 0, 0, 0, 0, 1, 0, 0, 0, 0, 1, 0, 0, 0, 0, 1, 0, 0, 0, 0, 1, 0, 0, 0, 0, 1, 0, 0, 0, 0, 1, 0, 0, 0, 0, 0, 0, 0, 5, 0, 0, 0, 0, 0, 2, 0, 0, 0, 0, 0, 0, 0, 0, 0, 0, 0, 0, 0, 0, 0, 0, 0, 0, 0, 0]
def iv (a : Nat) : Nat := ivL.getD a 0
def MC0 : Mem := fun a i => if iv a = 1 then -9 else if iv a = 2 then (if i = 4 then 12 else 0) else if iv a = 3 then nI (a + 1 + 5 * i) else if iv a = 4 then nI (66 + 57 * i) else if iv a = 5 then (if i = 3 then 189 else if i = 4 then 190 else 0) else 0
def MM0 : Mem := fun a i => if a = 197 ∧ i = 4 then 12 else 0
def C0 (E : EE) (b : Nat) : Nat → va_E := fun k => cel E b k (MC0 k) (MM0 k) 0 0
theorem MC0_0 {a : Nat} (h : iv a = 0) : MC0 a = fun _ => 0 := by funext i; simp [MC0, h]
theorem MC0_1 {a : Nat} (h : iv a = 1) : MC0 a = fun _ => -9 := by funext i; simp [MC0, h]
theorem C0_0 (E : EE) (b : Nat) {o n : Nat} (h : kd o = (1, n)) (hi : iv o = 0) : C0 E b o = .inl (E.2.1, n, .inl fun _ => 0) := by rw [C0, ce_1 E _ _ _ _ h, MC0_0 hi]
theorem C0_1 (E : EE) (b : Nat) {o n : Nat} (h : kd o = (1, n)) (hi : iv o = 1) : C0 E b o = .inl (E.2.1, n, .inl fun _ => -9) := by rw [C0, ce_1 E _ _ _ _ h, MC0_1 hi]
theorem up_same {α : Type} {c : Nat → α} {o : Nat} {x : α} (h : c o = x) : va_up c o x = c := by
  funext q
  by_cases hq : q = o
  · subst hq; rw [va_up_self, h]
  · rw [va_up_ne _ _ hq]
theorem arrV_ext (cA : ClassId) {N : Nat} {f g : Nat → Value} (h : ∀ j, j < N → f j = g j) : arrV cA N f = arrV cA N g := by
  unfold arrV
  congr 2
  funext j
  exact h j.val j.isLt
theorem WN_exti {E : EE} {b n o N : Nat} {c : Nat → va_E} {s : State} {H : Heap} {locs : List Loc} {cA : ClassId} {f g : Nat → Int32} (hw : WN E b n c s H locs) (ho : o < n) (hce : c o = .inl (cA, N, .inl f)) (h : ∀ j, j < N → f j = g j) : WN E b n (va_up c o (.inl (cA, N, .inl g))) s H locs := by
  refine ⟨wn_P fun k hk => ?_, hw.2⟩
  by_cases hko : k = o
  · subst hko
    rw [va_up_self]
    have h2 := wn_at hw.1 hk
    rw [hce] at h2
    show H[b + k]? = some (vp_cell _ _)
    rw [vp_cell_i, ← arrV_ext cA (f := fun j => .int (f j)) (fun j hj => by rw [h j hj])]
    exact h2
  · rw [va_up_ne _ _ hko]
    exact wn_at hw.1 hk
theorem WN_extq {E : EE} {b n o N : Nat} {c : Nat → va_E} {s : State} {H : Heap} {locs : List Loc} {cA : ClassId} {f g : Nat → Option Nat} (hw : WN E b n c s H locs) (ho : o < n) (hce : c o = .inl (cA, N, .inr (.inr (.inr (.inr f))))) (h : ∀ j, j < N → f j = g j) : WN E b n (va_up c o (.inl (cA, N, .inr (.inr (.inr (.inr g)))))) s H locs := by
  refine ⟨wn_P fun k hk => ?_, hw.2⟩
  by_cases hko : k = o
  · subst hko
    rw [va_up_self]
    have h2 := wn_at hw.1 hk
    rw [hce] at h2
    show H[b + k]? = some (vp_cell _ _)
    rw [vp_cell_q, ← arrV_ext cA (f := fun j => va_rf (f j)) (fun j hj => by rw [h j hj])]
    exact h2
  · rw [va_up_ne _ _ hko]
    exact wn_at hw.1 hk
/-- Arrays.fill on one of the cells -/
def NF (E : EE) (b n o N : Nat) (c : Nat → va_E) (x : Int32) : Array Value → State → Outcome → State → Prop := va_Qv (fun (u : Nat → va_E) => u = va_up c o (.inl (E.2.1, N, .inl fun _ => x))) (fun u t => PN E b n u t) (AA b)
set_option maxHeartbeats 4000000 in
set_option maxRecDepth 100000 in
theorem fill_loop {p : Program} {l : Launch} {e : Env} {s : State} {m : MethodId} {args : Array Value} {below : List Frame} {meth : Method} {c0 : Code} {E : EE} {b n o N : Nat} {c : Nat → va_E} {x : Int32} (X : CN E p s m args c0 cJ7_fill_53178 4 RJ7) (hr : meth.sig.returnType = none) (hlk : meth.locks = false) (ho : o < n) (hN : N < 1000) : ∀ (k i : Nat), N ≤ i + k → i ≤ N → ∀ (f : Nat → Int32), (∀ j, j < i → f j = x) → ∀ (c1 : Nat → va_E), c1 = va_up c o (.inl (E.2.1, N, .inl f)) → ∀ (x2 : Int32), x2 = nI i → ∀ (H : Heap) (locs : List Loc) (ls : Array Slot), WN E b n c1 s H locs → lv_has ls 4 [(0, .ref (b + o)), (1, .int x), (2, .int x2), (3, .int (Int32.ofNat N))] → W p l e rmJ7_fill_53178 s m args below meth c0 H locs 0 0 (MQ below (NF E b n o N c x) args s 0 0 (AA b)) (F0 m 5 ls []) := by
  have hx := X.1
  have hb := X.2.1
  intro k
  induction k with
  | zero =>
    intro i h1 h2 f hfx c1 ec x2 e2 H locs ls hw hl
    refine lv_iload_n hx hb dJ7_fill_53178_5 rfl (lv_at hl 2 rfl) ?_
    refine lv_iload_n hx hb dJ7_fill_53178_6 rfl (lv_at hl 3 rfl) ?_
    refine lv_icmp_ge (tgt := 20) hx hb dJ7_fill_53178_7 (by decide) (fun q => ?_) (fun q => absurd (by rw [e2]; exact nI_le (by omega) (by omega)) q)
    have hw2 := WN_exti (g := fun _ => x) hw ho (by rw [ec, va_up_self]) (fun j hj => hfx j (by omega))
    have e9 : va_up c1 o (.inl (E.2.1, N, .inl fun _ => x)) = va_up c o (.inl (E.2.1, N, .inl fun _ => x)) := by rw [ec]; exact bx_uu c o _ _
    rw [e9] at hw2
    exact W.vret hx hb hr (fun t ht hW => ⟨⟨_, rfl, rfl, by rw [ht]; exact hw2.1, by rw [ht]; exact hw2.2.1, X.2.2.2.2.2.warm hW⟩, hw2.2.2.F ht⟩) hw2.2.2.2.2 dJ7_fill_53178_20 hlk
  | succ k ih =>
    intro i h1 h2 f hfx c1 ec x2 e2 H locs ls hw hl
    refine lv_iload_n hx hb dJ7_fill_53178_5 rfl (lv_at hl 2 rfl) ?_
    refine lv_iload_n hx hb dJ7_fill_53178_6 rfl (lv_at hl 3 rfl) ?_
    refine lv_icmp_ge (tgt := 20) hx hb dJ7_fill_53178_7 (by decide) (fun q => ?_) (fun q => ?_)
    · have hi : N ≤ i := by
        rcases Nat.lt_or_ge i N with z | z
        · exact absurd q (by rw [e2]; exact nI_ge z (by omega))
        · exact z
      have hw2 := WN_exti (g := fun _ => x) hw ho (by rw [ec, va_up_self]) (fun j hj => hfx j (by omega))
      have e9 : va_up c1 o (.inl (E.2.1, N, .inl fun _ => x)) = va_up c o (.inl (E.2.1, N, .inl fun _ => x)) := by rw [ec]; exact bx_uu c o _ _
      rw [e9] at hw2
      exact W.vret hx hb hr (fun t ht hW => ⟨⟨_, rfl, rfl, by rw [ht]; exact hw2.1, by rw [ht]; exact hw2.2.1, X.2.2.2.2.2.warm hW⟩, hw2.2.2.F ht⟩) hw2.2.2.2.2 dJ7_fill_53178_20 hlk
    · have hi : i < N := by
        rcases Nat.lt_or_ge i N with z | z
        · exact z
        · exact absurd (by rw [e2]; exact nI_le z (by omega)) q
      refine lv_aload_n hx hb dJ7_fill_53178_10 rfl (lv_at hl 0 rfl) ?_
      refine lv_iload_n hx hb dJ7_fill_53178_11 rfl (lv_at hl 2 rfl) ?_
      refine lv_iload_n hx hb dJ7_fill_53178_12 rfl (lv_at hl 1 rfl) ?_
      refine n_iast X hw ho (by rw [ec, va_up_self]) (by rw [e2]; exact vp_in_nI hi (by omega)) dJ7_fill_53178_13 (fun H locs hw => ?_)
      obtain ⟨y2, ey⟩ : ∃ y : Int32, y = x2 + 1 := ⟨_, rfl⟩
      refine lv_iinc (v := y2) (lv' := [(2, .int y2), (0, .ref (b + o)), (1, .int x), (3, .int (Int32.ofNat N))]) hx hb dJ7_fill_53178_14 hl (k := 2) rfl (by rw [ey]; rfl) (by decide) rfl (fun ls hl => ?_)
      refine lv_goto (tgt := 5) hx hb dJ7_fill_53178_17 (by decide) ?_
      refine ih (i + 1) (by omega) (by omega) (upd f i x) (fun j hj => ?_) _ (by rw [ec, bx_uu, e2, nI_clamp (by omega)]) y2 (by rw [ey, e2]; exact nI_1 i) H locs ls hw (lv_sub hl [1, 2, 0, 3] rfl)
      by_cases hj2 : j = i
      · subst hj2; exact pk_us
      · rw [pk_un hj2]; exact hfx j (by omega)
set_option maxHeartbeats 4000000 in
set_option maxRecDepth 100000 in
theorem fill_ct (l : Launch) (E : EE) (b : Nat) {n o N : Nat} {c : Nat → va_E} {f : Nat → Int32} {x : Int32} (ho : o < n) (hN : N < 1000) (hce : c o = .inl (E.2.1, N, .inl f)) : Met l yJ7_fill_53178 (.code yJ7_fill_53178 cJ7_fill_53178 4 none :: wt) rmJ7_fill_53178 (va_Pc [.ref (b + o), .int x] (PN E b n c)) (NF E b n o N c x) 0 0 (AA b) := by
  refine Met.ofW (cc := cJ7_fill_53178) (maxL := 4) (ret := none) (by decide) rfl ?_
  intro p e s m args below meth c0 s₁ B hml hv
  obtain ⟨rfl, hP, hz, hK⟩ := hv
  have hx := B.exec
  have hb := B.bytes
  have X : CN E p s m _ c0 cJ7_fill_53178 4 RJ7 := ⟨hx, hb, hml, findClass_of_methodNamed B.named, fun w h => atoms_spec (ws := _ :: wt) B.pre w (List.mem_cons_of_mem _ h), hK⟩
  have hr := B.returns
  have hlk := B.notSynchronized
  have hw : WN E b n c s s.heap [] := ⟨hP, hz, va_S.rf⟩
  have hl := lv_entry ([.ref (b + o), .int x]) (n := 4) (Nat.le_of_ble_eq_true rfl)
  rw [lg_entry_eq]
  generalize (lg_sl ([.ref (b + o), .int x]) ++ List.replicate (4 - (lg_sl ([.ref (b + o), .int x])).length) Slot.unset).toArray = ls at hl ⊢
  have hl : lv_has ls 4 [(0, .ref (b + o)), (1, .int x)] := hl
  refine lv_iconst (v := 0) hx hb dJ7_fill_53178_0 (by decide) ?_
  refine lv_istore_n (lv' := [(2, .int 0), (0, .ref (b + o)), (1, .int x)]) hx hb dJ7_fill_53178_1 rfl hl (by decide) rfl (fun ls hl => ?_)
  refine lv_aload_n hx hb dJ7_fill_53178_2 rfl (lv_at hl 1 rfl) ?_
  refine n_alen X hw ho hce dJ7_fill_53178_3 ?_
  refine lv_istore_n (lv' := [(3, .int (Int32.ofNat N)), (2, .int 0), (0, .ref (b + o)), (1, .int x)]) hx hb dJ7_fill_53178_4 rfl hl (by decide) rfl (fun ls hl => ?_)
  exact fill_loop X hr hlk ho hN N 0 (by omega) (by omega) f (fun j hj => absurd hj (by omega)) c (up_same hce).symm 0 nI_0.symm s.heap [] ls hw (lv_sub hl [2, 3, 1, 0] rfl)
section FROW
variable {p : Program} {l : Launch} {e : Env} {R : Room} {s : State} {m : MethodId} {args : Array Value} {below : List Frame} {meth : Method} {c0 : Code} {H : Heap} {locs : List Loc} {cells slots : Nat} {Q : State → Prop} {E : EE} {b n : Nat} {c : Nat → va_E} {cc : ByteArray} {nL pc : Nat} {ls : Array Slot} {rest : List Value} {own : String}
theorem n_fill (X : CN E p s m args c0 cc nL own) (hw : WN E b n c s H locs) {o N index : Nat} {f : Nat → Int32} {x : Int32} (ho : o < n) (hN : N < 1000) (hce : c o = .inl (E.2.1, N, .inl f)) (cw : CWS own RJ7 index yJ7_fill_53178 cJ7_fill_53178 4 none) (hR : Rm R rmJ7_fill_53178 4) (hsz : ls.size = nL) (hW : (rest.map fun v => v.category).sum ≤ 8) (hdg : decode cc pc = .ok (.invokestatic index, 3)) (hcs : cells ≤ R.cells ∧ slots ≤ R.slots) (kk : ∀ (H1 : Heap) (locs1 : List Loc), WN E b n (va_up c o (.inl (E.2.1, N, .inl fun _ => x))) s H1 locs1 → W p l e R s m args below meth c0 H1 locs1 cells slots Q (F0 m (pc + 3) ls rest)) : W p l e R s m args below meth c0 H locs cells slots Q (F0 m pc ls (.int x :: .ref (b + o) :: rest)) := by
  have hts := X.2.2.2.2.1
  obtain ⟨hC, hd⟩ := hd_J7_fill_53178
  refine va_callv (va_runS (As := [.ref (b + o), .int x]) (rest := rest) ⟨X.1, X.2.1, X.2.2.1, X.2.2.2.1, hts⟩ (fill_ct l E b (x := x) ho hN hce) ⟨callB_of 2 hts (gw (Ts := wt) cw.2.2.2) rfl hR.2.2.1 hR.2.2.2 (by rw [hC]; exact hts _ cw.2.2.1) (hts _ cw.1) hd ⟨hR.1, hR.2.1⟩, hts _ cw.2.1⟩ ⟨blindN _, fun U hU hWm => ⟨rfl, by rw [hU]; exact hw.1, by rw [hU]; exact hw.2.1, X.2.2.2.2.2.warm hWm⟩⟩ rfl rfl hsz rfl (lv_room hW) hdg hcs) hw.2.2 (fun q _ h => h) (fun q h => h) (fun u t H1 locs1 ht hvm hp hB hz hk hS => ?_)
  subst hp
  exact kk H1 locs1 ⟨by rw [← ht]; exact hB.1, by rw [← ht]; exact hB.2.1, hS⟩
end FROW
