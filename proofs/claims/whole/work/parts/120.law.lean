def R_law : String := "BarberJarsLaw"
def lw_P (b : Addr) (xs : List Int32) (args : Array Value) (s : State) : Prop := args = #[.ref b] ∧ s.IntsAt b xs ∧ xs.length ≤ 320 ∧ (Jvm.Cond.and given_1 narrow_1).before args s = true
def lw_Q (_ : Array Value) (s : State) (o : Outcome) (t : State) : Prop := o = .returned (some (.int 1)) ∧ Framed s o t [] 600000 7302250
def lw_Z (below : List Frame) (a : Array Value) (s : State) : State → Prop := fun t => ∃ o, t.status = .running ∧ Ended t below o ∧ lw_Q a s o t
/-- the law's own end, with 1 on the stack, nothing written that was there before, its room as the claim has it -/
theorem lw_ret {p : Program} {l : Launch} {e : Env} {s : State} {m : MethodId} {below : List Frame} {meth : Method} {c : Code} {b : Nat} (hx : p.tables.exec = Jvm.exec) (hb : c.code = code) (hr : meth.sig.returnType = ret) (hlocks : meth.locks = false) {pc : Nat} {H : Heap} {ls : Array Slot} (hdg : decode code pc = .ok (.ireturn, 1)) : W p l e room_1 s m #[Value.ref b] below meth c H [] 600000 7302250 (lw_Z below #[Value.ref b] s) (F0 m pc ls [.int 1]) := by
  intro T hT X
  obtain ⟨fs, hret, hrun, hended, hW, hframe⟩ := X.leave (v := some (.int 1)) (hlocks := hlocks) (fun h => by rw [hr] at h; cases h)
  have hmeth' : T.vm.method? m = some meth := X.method'
  refine ⟨T.setFrames fs, ?_, .returned (some (.int 1)), hrun, hended, rfl, ⟨_, rfl⟩, hW, hframe⟩
  jvm_step X.here [X.here.top, hx, hb, hdg, hmeth', hr, ret, narrow_b1]
  (try refine ⟨rfl, ?_⟩); (try refine ⟨rfl, ?_⟩)
  first | (intro acts; rw [hret _ acts rfl rfl rfl]) | rw [hret _ _ rfl rfl rfl]
  exact Steps.refl _
/-- what holds at the law's entry: the machine, the code, the tables' words (any of lw_tbl by 'hts w (by decide +kernel)'), the script of L ints xs at the cell b, what the Statement gives of the start (any of its parts by flat_of_before) -/
def lw_At (p : Program) (s : State) (m : MethodId) (meth : Method) (c : Code) (b L : Nat) (xs : Nat → Int32) : Prop :=
  p.tables.exec = Jvm.exec ∧ c.code = code ∧ meth.sig.returnType = ret ∧ c.maxLocals = 4 ∧ s.vm.findClass R_law = some m.cls ∧ (∀ w ∈ lw_tbl, w.before #[Value.ref b] s = true) ∧ va_X b L xs s s.heap ∧ b < s.heap.size ∧ meth.locks = false ∧ (Jvm.Cond.and given_1 narrow_1).before #[Value.ref b] s = true

section LROW
variable {p : Program} {l : Launch} {e : Env} {R : Room} {s : State} {m : MethodId} {args : Array Value} {below : List Frame} {meth : Method} {c : Code} {H : Heap} {locs : List Loc} {cells slots : Nat} {Q : State → Prop} {E : EE} {b : Nat} {MC MM MC' MM' : Mem} {TC TM TC' TM' : Int64} {cc : ByteArray} {nL pc : Nat} {ls : Array Slot} {rest : List Value} {own : String}
variable {y : MethodName} {bytes : ByteArray} {maxL index n : Nat} {ret : Option FieldType} {rm : Room} {As : List Value} {st : List Value}
theorem LcVi {C : String} {o ci N : Nat} {T : u_T} {fs : List Value} {r : Int32} (X : CX E p s m args c cc nL own) (hw : WW E b MC TC MM TM s H locs) (hM : MetI l E b y (.code y bytes maxL ret) rm (.ref (b + o) :: As) MC TC MM TM r MC' TC' MM' TM') (cw : CW own C index y bytes maxL ret) (hd : Hd y C n) (hR : Rm R rm maxL) (ho : o < 212) (hce : cel E b o (MC o) (MM o) TC TM = .inr (ci, fs)) (hc : vwCl[ci]? = some (C, T, N)) (hn : As.length = n) (hsz : ls.size = nL) (hst : st = As.reverse ++ .ref (b + o) :: rest) (hW : (rest.map fun v => v.category).sum ≤ 8) (hdg : decode cc pc = .ok (.invokevirtual index, 3)) (hcs : cells ≤ R.cells ∧ slots ≤ R.slots) (kk : ∀ (H1 : Heap) (locs1 : List Loc), WW E b MC' TC' MM' TM' s H1 locs1 → W p l e R s m args below meth c H1 locs1 cells slots Q (F0 m (pc + 3) ls (.int r :: rest))) : W p l e R s m args below meth c H locs cells slots Q (F0 m pc ls st) := by
  subst hst
  refine va_calli (va_runV (As := As) (rest := rest) ⟨X.1, X.2.1, X.2.2.1, X.2.2.2.1, X.2.2.2.2.1⟩ hM (cw_of X cw hd hR) (preV X hw ho hce hc) rfl hn hsz rfl (lv_room hW) hdg hcs) hw.2 (fun q _ h => h) (fun q h => h) (fun r' u t H1 locs1 ht hvm hp hB hz hk hS => ?_)
  subst hp
  exact kk H1 locs1 ⟨by rw [← ht]; exact hB.1, hS⟩
theorem LcVl {C : String} {o ci N : Nat} {T : u_T} {fs : List Value} {r : Int64} (X : CX E p s m args c cc nL own) (hw : WW E b MC TC MM TM s H locs) (hM : MetL l E b y (.code y bytes maxL ret) rm (.ref (b + o) :: As) MC TC MM TM r MC' TC' MM' TM') (cw : CW own C index y bytes maxL ret) (hd : Hd y C n) (hR : Rm R rm maxL) (ho : o < 212) (hce : cel E b o (MC o) (MM o) TC TM = .inr (ci, fs)) (hc : vwCl[ci]? = some (C, T, N)) (hn : As.length = n) (hsz : ls.size = nL) (hst : st = As.reverse ++ .ref (b + o) :: rest) (hW : (rest.map fun v => v.category).sum ≤ 8) (hdg : decode cc pc = .ok (.invokevirtual index, 3)) (hcs : cells ≤ R.cells ∧ slots ≤ R.slots) (kk : ∀ (H1 : Heap) (locs1 : List Loc), WW E b MC' TC' MM' TM' s H1 locs1 → W p l e R s m args below meth c H1 locs1 cells slots Q (F0 m (pc + 3) ls (.long r :: rest))) : W p l e R s m args below meth c H locs cells slots Q (F0 m pc ls st) := by
  subst hst
  refine va_calll (va_runV (As := As) (rest := rest) ⟨X.1, X.2.1, X.2.2.1, X.2.2.2.1, X.2.2.2.2.1⟩ hM (cw_of X cw hd hR) (preV X hw ho hce hc) rfl hn hsz rfl (lv_room hW) hdg hcs) hw.2 (fun q _ h => h) (fun q h => h) (fun r' u t H1 locs1 ht hvm hp hB hz hk hS => ?_)
  subst hp
  exact kk H1 locs1 ⟨by rw [← ht]; exact hB.1, hS⟩
end LROW
theorem law_nlt {k L : Nat} {x3 : Int32} (hL : L < 1000) (h : 5 * k + 5 ≤ L) (ex : x3 = nI (5 * k)) : ¬ Int32.ofNat L - 5 < x3 := by
  rw [ex]
  have e1 : Int32.ofNat L - 5 = nI (L - 5) := pk_sub (a := L) (b := 5) (by omega)
  rw [e1]
  exact nI_nlt (by omega) (by omega)
theorem law_lt {k L : Nat} {x3 : Int32} (hL : L < 1000) (h : L < 5 * k + 5) (hk : 5 * k ≤ L + 4) (ex : x3 = nI (5 * k)) : Int32.ofNat L - 5 < x3 := by
  rw [ex]
  have h1 : (nI L - nI 5).toInt = (L : Int) - 5 := pk_sub_toInt (by omega) (by omega)
  have h2 : (nI (5 * k)).toInt = ((5 * k : Nat) : Int) := nI_toInt (by omega)
  have e1 : Int32.ofNat L - 5 = nI L - nI 5 := rfl
  rw [e1, Int32.lt_iff_toInt_lt, h1, h2]
  omega
theorem law_step (k : Nat) : nI (5 * k) + 5 = nI (5 * (k + 1)) := by
  have := nI_add (5 * k) 5
  rw [show 5 * (k + 1) = 5 * k + 5 by omega]
  exact this
theorem law_in {k L : Nat} {x3 : Int32} (hL : L < 1000) (h : 5 * k + 5 ≤ L) (ex : x3 = nI (5 * k)) : ∀ j : Int32, 1 ≤ j → j ≤ 4 → vp_in (x3 + j) L := by
  intro j h1 h2
  have h1' : (1 : Int) ≤ j.toInt := by have := Int32.le_iff_toInt_le.mp h1; simpa using this
  obtain ⟨i, hi, ei⟩ := nI_of2 (M := 4) (n := 4) (by decide) (fun q => by have := Int32.lt_iff_toInt_lt.mp q; simp at this; omega) h2
  rw [ex, ei, nI_add]
  exact vp_in_nI (by omega) (by omega)
set_option maxHeartbeats 4000000 in
set_option maxRecDepth 100000 in
theorem law_end {p : Program} {l : Launch} {e : Env} {s : State} {m : MethodId} {below : List Frame} {meth : Method} {c : Code} {E : EE} {b bs L : Nat} {xs : Nat → Int32} (hL : L ≤ 320) (hr : meth.sig.returnType = ret) (hlk : meth.locks = false) (hbb : b = s.heap.size) (X : CX E p s m #[Value.ref bs] c code 4 RL) (hX : va_X bs L xs s s.heap) (hbl : bs < s.heap.size) (hbA : ¬ AA b bs) {k : Nat} (hk : L < 5 * k + 5) {x3 : Int32} (ex : x3 = nI (5 * k)) (hk2 : 5 * k ≤ L + 4) {ls : Array Slot} (hl : lv_has ls 4 [(0, .ref bs), (1, .ref (b + 0)), (2, .ref (b + 197)), (3, .int x3)]) {MC : Mem} {TC : Int64} {MM : Mem} {TM : Int64} {H : Heap} {locs : List Loc} (hw : WW E b MC TC MM TM s H locs) : W p l e room_1 s m #[Value.ref bs] below meth c H locs 600000 7302250 (lw_Z below #[Value.ref bs] s) (F0 m 18 ls []) := by
  have hx := X.1
  have hb := X.2.1
  refine lv_iload_n hx hb dL_law_18 rfl (lv_at hl 3 rfl) ?_
  refine lv_aload_n hx hb dL_law_19 rfl (lv_at hl 0 rfl) ?_
  refine va_slen hx hb hX hbl hbA hw.2 dL_law_20 ?_
  refine lv_iconst (v := 5) hx hb dL_law_21 (by decide) ?_
  refine lv_isub hx hb dL_law_22 ?_
  refine lv_icmp_gt (tgt := 958) hx hb dL_law_23 (by decide) (fun c1 => ?_) (fun c1 => absurd (law_lt (by omega) hk hk2 ex) c1)
  refine lv_iconst (v := 1) hx hb dL_law_958 (by decide) ?_
  refine va_forget (fun q hq => by have := hw.2.2.2 q hq; rw [← hbb]; exact this) ?_
  exact lw_ret hx hb hr hlk dL_law_959

def Sim_type (I : Mem → Int64 → Mem → Int64 → Prop) : Prop := ∀ (MC : Mem) (TC : Int64) (MM : Mem) (TM : Int64), I MC TC MM TM → ∀ (a1 : Int32), ∃ (u : Int32 × Mem) (v : Int32 × Mem), gX7_type a1 MC = some u ∧ gX8_type a1 MM = some v ∧ u.1 = v.1 ∧ I u.2 TC v.2 TM
def Sim_clear (I : Mem → Int64 → Mem → Int64 → Prop) : Prop := ∀ (MC : Mem) (TC : Int64) (MM : Mem) (TM : Int64), I MC TC MM TM → ∃ (u : Int32 × Mem) (v : Int32 × Mem), gX7_clear MC = some u ∧ gX8_clear MM = some v ∧ u.1 = v.1 ∧ I u.2 TC v.2 TM
def Sim_shop (I : Mem → Int64 → Mem → Int64 → Prop) : Prop := ∀ (MC : Mem) (TC : Int64) (MM : Mem) (TM : Int64), I MC TC MM TM → ∃ (u : Int32 × Mem) (v : Int32 × Mem), gX7_shop MC = some u ∧ gX8_shop MM = some v ∧ u.1 = v.1 ∧ I u.2 TC v.2 TM
def Sim_one (I : Mem → Int64 → Mem → Int64 → Prop) : Prop := ∀ (MC : Mem) (TC : Int64) (MM : Mem) (TM : Int64), I MC TC MM TM → ∀ (a1 a2 : Int32), ∃ (u : Int32) (v : Int32), gX7_one a1 a2 MC = some u ∧ gX8_one a1 a2 MM = some v ∧ u = v ∧ I MC TC MM TM
def Sim_week (I : Mem → Int64 → Mem → Int64 → Prop) : Prop := ∀ (MC : Mem) (TC : Int64) (MM : Mem) (TM : Int64), I MC TC MM TM → ∀ (a1 a2 : Int32), ∃ (u : Int32) (v : Int32), gX7_week a1 a2 MC = some u ∧ gX8_week a1 a2 MM = some v ∧ u = v ∧ I MC TC MM TM
def Sim_layer (I : Mem → Int64 → Mem → Int64 → Prop) : Prop := ∀ (MC : Mem) (TC : Int64) (MM : Mem) (TM : Int64), I MC TC MM TM → ∀ (a1 a2 : Int32), ∃ (u : Int32) (v : Int32), gX7_layer a1 a2 MC = some u ∧ gX8_layer a1 a2 MM = some v ∧ u = v ∧ I MC TC MM TM
def Sim_jar (I : Mem → Int64 → Mem → Int64 → Prop) : Prop := ∀ (MC : Mem) (TC : Int64) (MM : Mem) (TM : Int64), I MC TC MM TM → ∀ (a1 a2 : Int32), ∃ (u : Int32) (v : Int32), gX7_jar a1 a2 MC = some u ∧ gX8_jar a1 a2 MM = some v ∧ u = v ∧ I MC TC MM TM
def Sim_days (I : Mem → Int64 → Mem → Int64 → Prop) : Prop := ∀ (MC : Mem) (TC : Int64) (MM : Mem) (TM : Int64), I MC TC MM TM → ∀ (a1 : Int32), ∃ (u : Int32 × Mem) (v : Int32 × Mem), gX7_days a1 MC = some u ∧ gX8_days a1 MM = some v ∧ u.1 = v.1 ∧ I u.2 TC v.2 TM
def Sim_minds (I : Mem → Int64 → Mem → Int64 → Prop) : Prop := ∀ (MC : Mem) (TC : Int64) (MM : Mem) (TM : Int64), I MC TC MM TM → ∀ (a1 a2 : Int32), ∃ (u : Int32 × Mem) (v : Int32 × Mem), gX7_minds a1 a2 MC = some u ∧ gX8_minds a1 a2 MM = some v ∧ u.1 = v.1 ∧ I u.2 TC v.2 TM
def Sim_cuts (I : Mem → Int64 → Mem → Int64 → Prop) : Prop := ∀ (MC : Mem) (TC : Int64) (MM : Mem) (TM : Int64), I MC TC MM TM → ∀ (a1 a2 : Int32), ∃ (u : Int32 × Mem) (v : Int32 × Mem), gX7_cuts a1 a2 MC = some u ∧ gX8_cuts a1 a2 MM = some v ∧ u.1 = v.1 ∧ I u.2 TC v.2 TM
def Sim_changes (I : Mem → Int64 → Mem → Int64 → Prop) : Prop := ∀ (MC : Mem) (TC : Int64) (MM : Mem) (TM : Int64), I MC TC MM TM → ∀ (a1 : Int32), ∃ (u : Int32 × Mem) (v : Int32 × Mem), gX7_changes a1 MC = some u ∧ gX8_changes a1 MM = some v ∧ u.1 = v.1 ∧ I u.2 TC v.2 TM
def Sim_empties (I : Mem → Int64 → Mem → Int64 → Prop) : Prop := ∀ (MC : Mem) (TC : Int64) (MM : Mem) (TM : Int64), I MC TC MM TM → ∀ (a1 : Int32), ∃ (u : Int32 × Mem) (v : Int32 × Mem), gX7_empties a1 MC = some u ∧ gX8_empties a1 MM = some v ∧ u.1 = v.1 ∧ I u.2 TC v.2 TM
def Sim_undo (I : Mem → Int64 → Mem → Int64 → Prop) : Prop := ∀ (MC : Mem) (TC : Int64) (MM : Mem) (TM : Int64), I MC TC MM TM → ∃ (u : Int32 × Mem) (v : Int32 × Mem), gX7_undo MC = some u ∧ gX8_undo MM = some v ∧ u.1 = v.1 ∧ I u.2 TC v.2 TM
def Sim_now (I : Mem → Int64 → Mem → Int64 → Prop) : Prop := ∀ (MC : Mem) (TC : Int64) (MM : Mem) (TM : Int64), I MC TC MM TM → ∀ (a1 : Int32), ∃ (u : Int32) (v : Int32), gX7_now a1 MC = some u ∧ gX8_now a1 MM = some v ∧ u = v ∧ I MC TC MM TM
def Sim_reads (I : Mem → Int64 → Mem → Int64 → Prop) : Prop := ∀ (MC : Mem) (TC : Int64) (MM : Mem) (TM : Int64), I MC TC MM TM → ∀ (a1 a2 : Int32), ∃ (u : Int32 × Mem) (v : Int32), gX7_reads a1 a2 MC = some u ∧ gX8_reads a1 a2 MM = some v ∧ u.1 = v ∧ I u.2 TC MM TM
def Sim_plan (I : Mem → Int64 → Mem → Int64 → Prop) : Prop := ∀ (MC : Mem) (TC : Int64) (MM : Mem) (TM : Int64), I MC TC MM TM → ∀ (a1 a2 a3 a4 : Int32), ∃ (u : Int32 × Mem) (v : Int32 × Mem), gX7_plan a1 a2 a3 a4 MC = some u ∧ gX8_plan a1 a2 a3 a4 MM = some v ∧ u.1 = v.1 ∧ I u.2 TC v.2 TM
def Sim_least (I : Mem → Int64 → Mem → Int64 → Prop) : Prop := ∀ (MC : Mem) (TC : Int64) (MM : Mem) (TM : Int64), I MC TC MM TM → ∀ (a1 a2 a3 : Int32), ∃ (u : Int32 × Mem) (v : Int32 × Mem), gX7_least a1 a2 a3 MC = some u ∧ gX8_least a1 a2 a3 MM = some v ∧ u.1 = v.1 ∧ I u.2 TC v.2 TM
def Sim_wig (I : Mem → Int64 → Mem → Int64 → Prop) : Prop := ∀ (MC : Mem) (TC : Int64) (MM : Mem) (TM : Int64), I MC TC MM TM → ∀ (a1 : Int32), ∃ (u : Int32 × Mem) (v : Int32), gX7_wig a1 MC = some u ∧ gX8_wig a1 MM = some v ∧ u.1 = v ∧ I u.2 TC MM TM
def Sim_odds (I : Mem → Int64 → Mem → Int64 → Prop) : Prop := ∀ (MC : Mem) (TC : Int64) (MM : Mem) (TM : Int64), I MC TC MM TM → ∀ (a1 a2 a3 a4 : Int32), ∃ (u : Int32) (v : Int32), gX7_odds a1 a2 a3 a4 = some u ∧ gX8_odds a1 a2 a3 a4 = some v ∧ u = v ∧ I MC TC MM TM
def Sim_saw (I : Mem → Int64 → Mem → Int64 → Prop) : Prop := ∀ (MC : Mem) (TC : Int64) (MM : Mem) (TM : Int64), I MC TC MM TM → ∀ (a1 : Int32), ∃ (u : Int32 × Mem) (v : Int32 × Mem), gX7_saw a1 MC = some u ∧ gX8_saw a1 MM = some v ∧ u.1 = v.1 ∧ I u.2 TC v.2 TM
def Sim_lock (I : Mem → Int64 → Mem → Int64 → Prop) : Prop := ∀ (MC : Mem) (TC : Int64) (MM : Mem) (TM : Int64), I MC TC MM TM → ∀ (a1 : Int32), ∃ (u : Int32 × Mem) (v : Int32 × Mem), gX7_lock a1 MC = some u ∧ gX8_lock a1 MM = some v ∧ u.1 = v.1 ∧ I u.2 TC v.2 TM
def Sim_hears (I : Mem → Int64 → Mem → Int64 → Prop) : Prop := ∀ (MC : Mem) (TC : Int64) (MM : Mem) (TM : Int64), I MC TC MM TM → ∀ (a1 a2 : Int32), ∃ (u : Int32 × Mem) (v : Int32 × Mem), gX7_hears a1 a2 MC = some u ∧ gX8_hears a1 a2 MM = some v ∧ u.1 = v.1 ∧ I u.2 TC v.2 TM
def Sim_sets (I : Mem → Int64 → Mem → Int64 → Prop) : Prop := ∀ (MC : Mem) (TC : Int64) (MM : Mem) (TM : Int64), I MC TC MM TM → ∀ (a1 : Int32), ∃ (u : Int32 × Mem) (v : Int32), gX7_sets a1 MC = some u ∧ gX8_sets a1 MM = some v ∧ u.1 = v ∧ I u.2 TC MM TM
def Sim_forget (I : Mem → Int64 → Mem → Int64 → Prop) : Prop := ∀ (MC : Mem) (TC : Int64) (MM : Mem) (TM : Int64), I MC TC MM TM → ∃ (u : Int32 × Mem) (v : Int32 × Mem), gX7_forget MC = some u ∧ gX8_forget MM = some v ∧ u.1 = v.1 ∧ I u.2 TC v.2 TM
def Sim_mark (I : Mem → Int64 → Mem → Int64 → Prop) : Prop := ∀ (MC : Mem) (TC : Int64) (MM : Mem) (TM : Int64), I MC TC MM TM → ∀ (a1 a2 : Int32), ∃ (u : Int32 × Int64) (v : Int32 × Int64), gX7_mark a1 a2 MC TC = some u ∧ gX8_mark a1 a2 MM TM = some v ∧ u.1 = v.1 ∧ I MC u.2 MM v.2
def Sim_keep (I : Mem → Int64 → Mem → Int64 → Prop) : Prop := ∀ (MC : Mem) (TC : Int64) (MM : Mem) (TM : Int64), I MC TC MM TM → ∀ (a1 : Int32), ∃ (u : Int32 × Mem) (v : Int32 × Mem), gX7_keep a1 MC = some u ∧ gX8_keep a1 MM = some v ∧ u.1 = v.1 ∧ I u.2 TC v.2 TM
def Sim_back (I : Mem → Int64 → Mem → Int64 → Prop) : Prop := ∀ (MC : Mem) (TC : Int64) (MM : Mem) (TM : Int64), I MC TC MM TM → ∀ (a1 : Int32), ∃ (u : Int32 × Mem) (v : Int32 × Mem), gX7_back a1 MC = some u ∧ gX8_back a1 MM = some v ∧ u.1 = v.1 ∧ I u.2 TC v.2 TM
def Sim_count (I : Mem → Int64 → Mem → Int64 → Prop) : Prop := ∀ (MC : Mem) (TC : Int64) (MM : Mem) (TM : Int64), I MC TC MM TM → ∀ (a1 : Int32), ∃ (u : Int32) (v : Int32), gX7_count a1 MC = some u ∧ gX8_count a1 MM = some v ∧ u = v ∧ I MC TC MM TM
def Sim_trace (I : Mem → Int64 → Mem → Int64 → Prop) : Prop := ∀ (MC : Mem) (TC : Int64) (MM : Mem) (TM : Int64), I MC TC MM TM → ∃ (u : Int64) (v : Int64), gX7_trace TC = some u ∧ gX8_trace TM = some v ∧ u = v ∧ I MC TC MM TM
def SimAll (I : Mem → Int64 → Mem → Int64 → Prop) : Prop := Sim_type I ∧ Sim_clear I ∧ Sim_shop I ∧ Sim_one I ∧ Sim_week I ∧ Sim_layer I ∧ Sim_jar I ∧ Sim_days I ∧ Sim_minds I ∧ Sim_cuts I ∧ Sim_changes I ∧ Sim_empties I ∧ Sim_undo I ∧ Sim_now I ∧ Sim_reads I ∧ Sim_plan I ∧ Sim_least I ∧ Sim_wig I ∧ Sim_odds I ∧ Sim_saw I ∧ Sim_lock I ∧ Sim_hears I ∧ Sim_sets I ∧ Sim_forget I ∧ Sim_mark I ∧ Sim_keep I ∧ Sim_back I ∧ Sim_count I ∧ Sim_trace I
set_option maxHeartbeats 4000000 in
set_option maxRecDepth 100000 in
theorem law_type {p : Program} {l : Launch} {e : Env} {s : State} {m : MethodId} {below : List Frame} {meth : Method} {c : Code} {E : EE} {b bs L : Nat} {xs : Nat → Int32} {I : Mem → Int64 → Mem → Int64 → Prop} (X : CX E p s m #[Value.ref bs] c code 4 RL) (hX : va_X bs L xs s s.heap) (hbl : bs < s.heap.size) (hbA : ¬ AA b bs) (hS : Sim_type I) {x3 : Int32} (hi : ∀ j : Int32, 1 ≤ j → j ≤ 4 → vp_in (x3 + j) L) {ls : Array Slot} (hl : lv_has ls 4 [(0, .ref bs), (1, .ref (b + 0)), (2, .ref (b + 197)), (3, .int x3)]) {MC : Mem} {TC : Int64} {MM : Mem} {TM : Int64} {H : Heap} {locs : List Loc} (hI : I MC TC MM TM) (hw : WW E b MC TC MM TM s H locs) (hk : ∀ (MC : Mem) (TC : Int64) (MM : Mem) (TM : Int64) (H : Heap) (locs : List Loc), I MC TC MM TM → WW E b MC TC MM TM s H locs → W p l e room_1 s m #[Value.ref bs] below meth c H locs 600000 7302250 (lw_Z below #[Value.ref bs] s) (F0 m 952 ls [])) : W p l e room_1 s m #[Value.ref bs] below meth c H locs 600000 7302250 (lw_Z below #[Value.ref bs] s) (F0 m 164 ls []) := by
  have hx := X.1
  have hb := X.2.1
  obtain ⟨u, v, h1, h2, h3, h4⟩ := hS MC TC MM TM hI (xs (x3 + 1).toNatClampNeg)
  refine lv_aload_n hx hb dL_law_164 rfl (lv_at hl 1 rfl) ?_
  refine lv_aload_n hx hb dL_law_165 rfl (lv_at hl 0 rfl) ?_
  refine lv_iload_n hx hb dL_law_166 rfl (lv_at hl 3 rfl) ?_
  refine lv_iconst (v := 1) hx hb dL_law_167 (by decide) ?_
  refine lv_iadd hx hb dL_law_168 ?_
  refine va_sld hx hb hX hbl hbA hw.2 (hi 1 (by decide) (by decide)) dL_law_169 ?_
  refine LcVi (As := [.int (xs (x3 + 1).toNatClampNeg)]) X hw (ctX7_type l E b h1) ⟨mw_312, mw_313, mw_314, mw_52, mw_315⟩ hd_X7_type ⟨Nat.le_of_ble_eq_true rfl, Nat.le_of_ble_eq_true rfl, rfl, rfl⟩ (kdk kk_0 (by decide)) (ce_X7 E _ _ _ _ kk_0) (show vwCl[7]? = some (RX7, TX7, 11) from rfl) rfl hl.1 rfl (Nat.le_of_ble_eq_true rfl) dL_law_170 ⟨Nat.le_of_ble_eq_true rfl, Nat.le_of_ble_eq_true rfl⟩ (fun H locs hw => ?_)
  refine lv_aload_n hx hb dL_law_173 rfl (lv_at hl 2 rfl) ?_
  refine lv_aload_n hx hb dL_law_174 rfl (lv_at hl 0 rfl) ?_
  refine lv_iload_n hx hb dL_law_175 rfl (lv_at hl 3 rfl) ?_
  refine lv_iconst (v := 1) hx hb dL_law_176 (by decide) ?_
  refine lv_iadd hx hb dL_law_177 ?_
  refine va_sld hx hb hX hbl hbA hw.2 (hi 1 (by decide) (by decide)) dL_law_178 ?_
  refine LcVi (As := [.int (xs (x3 + 1).toNatClampNeg)]) X hw (ctX8_type l E b h2) ⟨mw_815, mw_816, mw_817, mw_61, mw_818⟩ hd_X8_type ⟨Nat.le_of_ble_eq_true rfl, Nat.le_of_ble_eq_true rfl, rfl, rfl⟩ (kdk kk_197 (by decide)) (ce_X8 E _ _ _ _ kk_197) (show vwCl[8]? = some (RX8, TX8, 31) from rfl) rfl hl.1 rfl (Nat.le_of_ble_eq_true rfl) dL_law_179 ⟨Nat.le_of_ble_eq_true rfl, Nat.le_of_ble_eq_true rfl⟩ (fun H locs hw => ?_)
  refine lv_icmp_eq (tgt := 952) hx hb dL_law_182 (by decide) (fun c1 => ?_) (fun c1 => absurd h3 c1)
  exact hk _ _ _ _ H locs h4 hw
set_option maxHeartbeats 4000000 in
set_option maxRecDepth 100000 in
theorem law_clear {p : Program} {l : Launch} {e : Env} {s : State} {m : MethodId} {below : List Frame} {meth : Method} {c : Code} {E : EE} {b bs L : Nat} {xs : Nat → Int32} {I : Mem → Int64 → Mem → Int64 → Prop} (X : CX E p s m #[Value.ref bs] c code 4 RL) (hX : va_X bs L xs s s.heap) (hbl : bs < s.heap.size) (hbA : ¬ AA b bs) (hS : Sim_clear I) {x3 : Int32} (hi : ∀ j : Int32, 1 ≤ j → j ≤ 4 → vp_in (x3 + j) L) {ls : Array Slot} (hl : lv_has ls 4 [(0, .ref bs), (1, .ref (b + 0)), (2, .ref (b + 197)), (3, .int x3)]) {MC : Mem} {TC : Int64} {MM : Mem} {TM : Int64} {H : Heap} {locs : List Loc} (hI : I MC TC MM TM) (hw : WW E b MC TC MM TM s H locs) (hk : ∀ (MC : Mem) (TC : Int64) (MM : Mem) (TM : Int64) (H : Heap) (locs : List Loc), I MC TC MM TM → WW E b MC TC MM TM s H locs → W p l e room_1 s m #[Value.ref bs] below meth c H locs 600000 7302250 (lw_Z below #[Value.ref bs] s) (F0 m 952 ls [])) : W p l e room_1 s m #[Value.ref bs] below meth c H locs 600000 7302250 (lw_Z below #[Value.ref bs] s) (F0 m 187 ls []) := by
  have hx := X.1
  have hb := X.2.1
  obtain ⟨u, v, h1, h2, h3, h4⟩ := hS MC TC MM TM hI 
  refine lv_aload_n hx hb dL_law_187 rfl (lv_at hl 1 rfl) ?_
  refine LcVi (As := []) X hw (ctX7_clear l E b h1) ⟨mw_319, mw_320, mw_321, mw_52, mw_322⟩ hd_X7_clear ⟨Nat.le_of_ble_eq_true rfl, Nat.le_of_ble_eq_true rfl, rfl, rfl⟩ (kdk kk_0 (by decide)) (ce_X7 E _ _ _ _ kk_0) (show vwCl[7]? = some (RX7, TX7, 11) from rfl) rfl hl.1 rfl (Nat.le_of_ble_eq_true rfl) dL_law_188 ⟨Nat.le_of_ble_eq_true rfl, Nat.le_of_ble_eq_true rfl⟩ (fun H locs hw => ?_)
  refine lv_aload_n hx hb dL_law_191 rfl (lv_at hl 2 rfl) ?_
  refine LcVi (As := []) X hw (ctX8_clear l E b h2) ⟨mw_822, mw_823, mw_824, mw_61, mw_825⟩ hd_X8_clear ⟨Nat.le_of_ble_eq_true rfl, Nat.le_of_ble_eq_true rfl, rfl, rfl⟩ (kdk kk_197 (by decide)) (ce_X8 E _ _ _ _ kk_197) (show vwCl[8]? = some (RX8, TX8, 31) from rfl) rfl hl.1 rfl (Nat.le_of_ble_eq_true rfl) dL_law_192 ⟨Nat.le_of_ble_eq_true rfl, Nat.le_of_ble_eq_true rfl⟩ (fun H locs hw => ?_)
  refine lv_icmp_eq (tgt := 952) hx hb dL_law_195 (by decide) (fun c1 => ?_) (fun c1 => absurd h3 c1)
  exact hk _ _ _ _ H locs h4 hw
set_option maxHeartbeats 4000000 in
set_option maxRecDepth 100000 in
theorem law_shop {p : Program} {l : Launch} {e : Env} {s : State} {m : MethodId} {below : List Frame} {meth : Method} {c : Code} {E : EE} {b bs L : Nat} {xs : Nat → Int32} {I : Mem → Int64 → Mem → Int64 → Prop} (X : CX E p s m #[Value.ref bs] c code 4 RL) (hX : va_X bs L xs s s.heap) (hbl : bs < s.heap.size) (hbA : ¬ AA b bs) (hS : Sim_shop I) {x3 : Int32} (hi : ∀ j : Int32, 1 ≤ j → j ≤ 4 → vp_in (x3 + j) L) {ls : Array Slot} (hl : lv_has ls 4 [(0, .ref bs), (1, .ref (b + 0)), (2, .ref (b + 197)), (3, .int x3)]) {MC : Mem} {TC : Int64} {MM : Mem} {TM : Int64} {H : Heap} {locs : List Loc} (hI : I MC TC MM TM) (hw : WW E b MC TC MM TM s H locs) (hk : ∀ (MC : Mem) (TC : Int64) (MM : Mem) (TM : Int64) (H : Heap) (locs : List Loc), I MC TC MM TM → WW E b MC TC MM TM s H locs → W p l e room_1 s m #[Value.ref bs] below meth c H locs 600000 7302250 (lw_Z below #[Value.ref bs] s) (F0 m 952 ls [])) : W p l e room_1 s m #[Value.ref bs] below meth c H locs 600000 7302250 (lw_Z below #[Value.ref bs] s) (F0 m 200 ls []) := by
  have hx := X.1
  have hb := X.2.1
  obtain ⟨u, v, h1, h2, h3, h4⟩ := hS MC TC MM TM hI 
  refine lv_aload_n hx hb dL_law_200 rfl (lv_at hl 1 rfl) ?_
  refine LcVi (As := []) X hw (ctX7_shop l E b h1) ⟨mw_323, mw_324, mw_325, mw_52, mw_326⟩ hd_X7_shop ⟨Nat.le_of_ble_eq_true rfl, Nat.le_of_ble_eq_true rfl, rfl, rfl⟩ (kdk kk_0 (by decide)) (ce_X7 E _ _ _ _ kk_0) (show vwCl[7]? = some (RX7, TX7, 11) from rfl) rfl hl.1 rfl (Nat.le_of_ble_eq_true rfl) dL_law_201 ⟨Nat.le_of_ble_eq_true rfl, Nat.le_of_ble_eq_true rfl⟩ (fun H locs hw => ?_)
  refine lv_aload_n hx hb dL_law_204 rfl (lv_at hl 2 rfl) ?_
  refine LcVi (As := []) X hw (ctX8_shop l E b h2) ⟨mw_826, mw_827, mw_828, mw_61, mw_829⟩ hd_X8_shop ⟨Nat.le_of_ble_eq_true rfl, Nat.le_of_ble_eq_true rfl, rfl, rfl⟩ (kdk kk_197 (by decide)) (ce_X8 E _ _ _ _ kk_197) (show vwCl[8]? = some (RX8, TX8, 31) from rfl) rfl hl.1 rfl (Nat.le_of_ble_eq_true rfl) dL_law_205 ⟨Nat.le_of_ble_eq_true rfl, Nat.le_of_ble_eq_true rfl⟩ (fun H locs hw => ?_)
  refine lv_icmp_eq (tgt := 952) hx hb dL_law_208 (by decide) (fun c1 => ?_) (fun c1 => absurd h3 c1)
  exact hk _ _ _ _ H locs h4 hw
set_option maxHeartbeats 4000000 in
set_option maxRecDepth 100000 in
theorem law_one {p : Program} {l : Launch} {e : Env} {s : State} {m : MethodId} {below : List Frame} {meth : Method} {c : Code} {E : EE} {b bs L : Nat} {xs : Nat → Int32} {I : Mem → Int64 → Mem → Int64 → Prop} (X : CX E p s m #[Value.ref bs] c code 4 RL) (hX : va_X bs L xs s s.heap) (hbl : bs < s.heap.size) (hbA : ¬ AA b bs) (hS : Sim_one I) {x3 : Int32} (hi : ∀ j : Int32, 1 ≤ j → j ≤ 4 → vp_in (x3 + j) L) {ls : Array Slot} (hl : lv_has ls 4 [(0, .ref bs), (1, .ref (b + 0)), (2, .ref (b + 197)), (3, .int x3)]) {MC : Mem} {TC : Int64} {MM : Mem} {TM : Int64} {H : Heap} {locs : List Loc} (hI : I MC TC MM TM) (hw : WW E b MC TC MM TM s H locs) (hk : ∀ (MC : Mem) (TC : Int64) (MM : Mem) (TM : Int64) (H : Heap) (locs : List Loc), I MC TC MM TM → WW E b MC TC MM TM s H locs → W p l e room_1 s m #[Value.ref bs] below meth c H locs 600000 7302250 (lw_Z below #[Value.ref bs] s) (F0 m 952 ls [])) : W p l e room_1 s m #[Value.ref bs] below meth c H locs 600000 7302250 (lw_Z below #[Value.ref bs] s) (F0 m 213 ls []) := by
  have hx := X.1
  have hb := X.2.1
  obtain ⟨u, v, h1, h2, h3, h4⟩ := hS MC TC MM TM hI (xs (x3 + 1).toNatClampNeg) (xs (x3 + 2).toNatClampNeg)
  refine lv_aload_n hx hb dL_law_213 rfl (lv_at hl 1 rfl) ?_
  refine lv_aload_n hx hb dL_law_214 rfl (lv_at hl 0 rfl) ?_
  refine lv_iload_n hx hb dL_law_215 rfl (lv_at hl 3 rfl) ?_
  refine lv_iconst (v := 1) hx hb dL_law_216 (by decide) ?_
  refine lv_iadd hx hb dL_law_217 ?_
  refine va_sld hx hb hX hbl hbA hw.2 (hi 1 (by decide) (by decide)) dL_law_218 ?_
  refine lv_aload_n hx hb dL_law_219 rfl (lv_at hl 0 rfl) ?_
  refine lv_iload_n hx hb dL_law_220 rfl (lv_at hl 3 rfl) ?_
  refine lv_iconst (v := 2) hx hb dL_law_221 (by decide) ?_
  refine lv_iadd hx hb dL_law_222 ?_
  refine va_sld hx hb hX hbl hbA hw.2 (hi 2 (by decide) (by decide)) dL_law_223 ?_
  refine LcVi (As := [.int (xs (x3 + 1).toNatClampNeg), .int (xs (x3 + 2).toNatClampNeg)]) X hw (ctX7_one l E b h1) ⟨mw_400, mw_401, mw_402, mw_52, mw_403⟩ hd_X7_one ⟨Nat.le_of_ble_eq_true rfl, Nat.le_of_ble_eq_true rfl, rfl, rfl⟩ (kdk kk_0 (by decide)) (ce_X7 E _ _ _ _ kk_0) (show vwCl[7]? = some (RX7, TX7, 11) from rfl) rfl hl.1 rfl (Nat.le_of_ble_eq_true rfl) dL_law_224 ⟨Nat.le_of_ble_eq_true rfl, Nat.le_of_ble_eq_true rfl⟩ (fun H locs hw => ?_)
  refine lv_aload_n hx hb dL_law_227 rfl (lv_at hl 2 rfl) ?_
  refine lv_aload_n hx hb dL_law_228 rfl (lv_at hl 0 rfl) ?_
  refine lv_iload_n hx hb dL_law_229 rfl (lv_at hl 3 rfl) ?_
  refine lv_iconst (v := 1) hx hb dL_law_230 (by decide) ?_
  refine lv_iadd hx hb dL_law_231 ?_
  refine va_sld hx hb hX hbl hbA hw.2 (hi 1 (by decide) (by decide)) dL_law_232 ?_
  refine lv_aload_n hx hb dL_law_233 rfl (lv_at hl 0 rfl) ?_
  refine lv_iload_n hx hb dL_law_234 rfl (lv_at hl 3 rfl) ?_
  refine lv_iconst (v := 2) hx hb dL_law_235 (by decide) ?_
  refine lv_iadd hx hb dL_law_236 ?_
  refine va_sld hx hb hX hbl hbA hw.2 (hi 2 (by decide) (by decide)) dL_law_237 ?_
  refine LcVi (As := [.int (xs (x3 + 1).toNatClampNeg), .int (xs (x3 + 2).toNatClampNeg)]) X hw (ctX8_one l E b h2) ⟨mw_864, mw_865, mw_866, mw_61, mw_867⟩ hd_X8_one ⟨Nat.le_of_ble_eq_true rfl, Nat.le_of_ble_eq_true rfl, rfl, rfl⟩ (kdk kk_197 (by decide)) (ce_X8 E _ _ _ _ kk_197) (show vwCl[8]? = some (RX8, TX8, 31) from rfl) rfl hl.1 rfl (Nat.le_of_ble_eq_true rfl) dL_law_238 ⟨Nat.le_of_ble_eq_true rfl, Nat.le_of_ble_eq_true rfl⟩ (fun H locs hw => ?_)
  refine lv_icmp_eq (tgt := 952) hx hb dL_law_241 (by decide) (fun c1 => ?_) (fun c1 => absurd h3 c1)
  exact hk _ _ _ _ H locs h4 hw
set_option maxHeartbeats 4000000 in
set_option maxRecDepth 100000 in
theorem law_week {p : Program} {l : Launch} {e : Env} {s : State} {m : MethodId} {below : List Frame} {meth : Method} {c : Code} {E : EE} {b bs L : Nat} {xs : Nat → Int32} {I : Mem → Int64 → Mem → Int64 → Prop} (X : CX E p s m #[Value.ref bs] c code 4 RL) (hX : va_X bs L xs s s.heap) (hbl : bs < s.heap.size) (hbA : ¬ AA b bs) (hS : Sim_week I) {x3 : Int32} (hi : ∀ j : Int32, 1 ≤ j → j ≤ 4 → vp_in (x3 + j) L) {ls : Array Slot} (hl : lv_has ls 4 [(0, .ref bs), (1, .ref (b + 0)), (2, .ref (b + 197)), (3, .int x3)]) {MC : Mem} {TC : Int64} {MM : Mem} {TM : Int64} {H : Heap} {locs : List Loc} (hI : I MC TC MM TM) (hw : WW E b MC TC MM TM s H locs) (hk : ∀ (MC : Mem) (TC : Int64) (MM : Mem) (TM : Int64) (H : Heap) (locs : List Loc), I MC TC MM TM → WW E b MC TC MM TM s H locs → W p l e room_1 s m #[Value.ref bs] below meth c H locs 600000 7302250 (lw_Z below #[Value.ref bs] s) (F0 m 952 ls [])) : W p l e room_1 s m #[Value.ref bs] below meth c H locs 600000 7302250 (lw_Z below #[Value.ref bs] s) (F0 m 246 ls []) := by
  have hx := X.1
  have hb := X.2.1
  obtain ⟨u, v, h1, h2, h3, h4⟩ := hS MC TC MM TM hI (xs (x3 + 1).toNatClampNeg) (xs (x3 + 2).toNatClampNeg)
  refine lv_aload_n hx hb dL_law_246 rfl (lv_at hl 1 rfl) ?_
  refine lv_aload_n hx hb dL_law_247 rfl (lv_at hl 0 rfl) ?_
  refine lv_iload_n hx hb dL_law_248 rfl (lv_at hl 3 rfl) ?_
  refine lv_iconst (v := 1) hx hb dL_law_249 (by decide) ?_
  refine lv_iadd hx hb dL_law_250 ?_
  refine va_sld hx hb hX hbl hbA hw.2 (hi 1 (by decide) (by decide)) dL_law_251 ?_
  refine lv_aload_n hx hb dL_law_252 rfl (lv_at hl 0 rfl) ?_
  refine lv_iload_n hx hb dL_law_253 rfl (lv_at hl 3 rfl) ?_
  refine lv_iconst (v := 2) hx hb dL_law_254 (by decide) ?_
  refine lv_iadd hx hb dL_law_255 ?_
  refine va_sld hx hb hX hbl hbA hw.2 (hi 2 (by decide) (by decide)) dL_law_256 ?_
  refine LcVi (As := [.int (xs (x3 + 1).toNatClampNeg), .int (xs (x3 + 2).toNatClampNeg)]) X hw (ctX7_week l E b h1) ⟨mw_416, mw_417, mw_418, mw_52, mw_419⟩ hd_X7_week ⟨Nat.le_of_ble_eq_true rfl, Nat.le_of_ble_eq_true rfl, rfl, rfl⟩ (kdk kk_0 (by decide)) (ce_X7 E _ _ _ _ kk_0) (show vwCl[7]? = some (RX7, TX7, 11) from rfl) rfl hl.1 rfl (Nat.le_of_ble_eq_true rfl) dL_law_257 ⟨Nat.le_of_ble_eq_true rfl, Nat.le_of_ble_eq_true rfl⟩ (fun H locs hw => ?_)
  refine lv_aload_n hx hb dL_law_260 rfl (lv_at hl 2 rfl) ?_
  refine lv_aload_n hx hb dL_law_261 rfl (lv_at hl 0 rfl) ?_
  refine lv_iload_n hx hb dL_law_262 rfl (lv_at hl 3 rfl) ?_
  refine lv_iconst (v := 1) hx hb dL_law_263 (by decide) ?_
  refine lv_iadd hx hb dL_law_264 ?_
  refine va_sld hx hb hX hbl hbA hw.2 (hi 1 (by decide) (by decide)) dL_law_265 ?_
  refine lv_aload_n hx hb dL_law_266 rfl (lv_at hl 0 rfl) ?_
  refine lv_iload_n hx hb dL_law_267 rfl (lv_at hl 3 rfl) ?_
  refine lv_iconst (v := 2) hx hb dL_law_268 (by decide) ?_
  refine lv_iadd hx hb dL_law_269 ?_
  refine va_sld hx hb hX hbl hbA hw.2 (hi 2 (by decide) (by decide)) dL_law_270 ?_
  refine LcVi (As := [.int (xs (x3 + 1).toNatClampNeg), .int (xs (x3 + 2).toNatClampNeg)]) X hw (ctX8_week l E b h2) ⟨mw_880, mw_881, mw_882, mw_61, mw_883⟩ hd_X8_week ⟨Nat.le_of_ble_eq_true rfl, Nat.le_of_ble_eq_true rfl, rfl, rfl⟩ (kdk kk_197 (by decide)) (ce_X8 E _ _ _ _ kk_197) (show vwCl[8]? = some (RX8, TX8, 31) from rfl) rfl hl.1 rfl (Nat.le_of_ble_eq_true rfl) dL_law_271 ⟨Nat.le_of_ble_eq_true rfl, Nat.le_of_ble_eq_true rfl⟩ (fun H locs hw => ?_)
  refine lv_icmp_eq (tgt := 952) hx hb dL_law_274 (by decide) (fun c1 => ?_) (fun c1 => absurd h3 c1)
  exact hk _ _ _ _ H locs h4 hw
set_option maxHeartbeats 4000000 in
set_option maxRecDepth 100000 in
theorem law_layer {p : Program} {l : Launch} {e : Env} {s : State} {m : MethodId} {below : List Frame} {meth : Method} {c : Code} {E : EE} {b bs L : Nat} {xs : Nat → Int32} {I : Mem → Int64 → Mem → Int64 → Prop} (X : CX E p s m #[Value.ref bs] c code 4 RL) (hX : va_X bs L xs s s.heap) (hbl : bs < s.heap.size) (hbA : ¬ AA b bs) (hS : Sim_layer I) {x3 : Int32} (hi : ∀ j : Int32, 1 ≤ j → j ≤ 4 → vp_in (x3 + j) L) {ls : Array Slot} (hl : lv_has ls 4 [(0, .ref bs), (1, .ref (b + 0)), (2, .ref (b + 197)), (3, .int x3)]) {MC : Mem} {TC : Int64} {MM : Mem} {TM : Int64} {H : Heap} {locs : List Loc} (hI : I MC TC MM TM) (hw : WW E b MC TC MM TM s H locs) (hk : ∀ (MC : Mem) (TC : Int64) (MM : Mem) (TM : Int64) (H : Heap) (locs : List Loc), I MC TC MM TM → WW E b MC TC MM TM s H locs → W p l e room_1 s m #[Value.ref bs] below meth c H locs 600000 7302250 (lw_Z below #[Value.ref bs] s) (F0 m 952 ls [])) : W p l e room_1 s m #[Value.ref bs] below meth c H locs 600000 7302250 (lw_Z below #[Value.ref bs] s) (F0 m 279 ls []) := by
  have hx := X.1
  have hb := X.2.1
  obtain ⟨u, v, h1, h2, h3, h4⟩ := hS MC TC MM TM hI (xs (x3 + 1).toNatClampNeg) (xs (x3 + 2).toNatClampNeg)
  refine lv_aload_n hx hb dL_law_279 rfl (lv_at hl 1 rfl) ?_
  refine lv_aload_n hx hb dL_law_280 rfl (lv_at hl 0 rfl) ?_
  refine lv_iload_n hx hb dL_law_281 rfl (lv_at hl 3 rfl) ?_
  refine lv_iconst (v := 1) hx hb dL_law_282 (by decide) ?_
  refine lv_iadd hx hb dL_law_283 ?_
  refine va_sld hx hb hX hbl hbA hw.2 (hi 1 (by decide) (by decide)) dL_law_284 ?_
  refine lv_aload_n hx hb dL_law_285 rfl (lv_at hl 0 rfl) ?_
  refine lv_iload_n hx hb dL_law_286 rfl (lv_at hl 3 rfl) ?_
  refine lv_iconst (v := 2) hx hb dL_law_287 (by decide) ?_
  refine lv_iadd hx hb dL_law_288 ?_
  refine va_sld hx hb hX hbl hbA hw.2 (hi 2 (by decide) (by decide)) dL_law_289 ?_
  refine LcVi (As := [.int (xs (x3 + 1).toNatClampNeg), .int (xs (x3 + 2).toNatClampNeg)]) X hw (ctX7_layer l E b h1) ⟨mw_420, mw_421, mw_422, mw_52, mw_423⟩ hd_X7_layer ⟨Nat.le_of_ble_eq_true rfl, Nat.le_of_ble_eq_true rfl, rfl, rfl⟩ (kdk kk_0 (by decide)) (ce_X7 E _ _ _ _ kk_0) (show vwCl[7]? = some (RX7, TX7, 11) from rfl) rfl hl.1 rfl (Nat.le_of_ble_eq_true rfl) dL_law_290 ⟨Nat.le_of_ble_eq_true rfl, Nat.le_of_ble_eq_true rfl⟩ (fun H locs hw => ?_)
  refine lv_aload_n hx hb dL_law_293 rfl (lv_at hl 2 rfl) ?_
  refine lv_aload_n hx hb dL_law_294 rfl (lv_at hl 0 rfl) ?_
  refine lv_iload_n hx hb dL_law_295 rfl (lv_at hl 3 rfl) ?_
  refine lv_iconst (v := 1) hx hb dL_law_296 (by decide) ?_
  refine lv_iadd hx hb dL_law_297 ?_
  refine va_sld hx hb hX hbl hbA hw.2 (hi 1 (by decide) (by decide)) dL_law_298 ?_
  refine lv_aload_n hx hb dL_law_299 rfl (lv_at hl 0 rfl) ?_
  refine lv_iload_n hx hb dL_law_300 rfl (lv_at hl 3 rfl) ?_
  refine lv_iconst (v := 2) hx hb dL_law_301 (by decide) ?_
  refine lv_iadd hx hb dL_law_302 ?_
  refine va_sld hx hb hX hbl hbA hw.2 (hi 2 (by decide) (by decide)) dL_law_303 ?_
  refine LcVi (As := [.int (xs (x3 + 1).toNatClampNeg), .int (xs (x3 + 2).toNatClampNeg)]) X hw (ctX8_layer l E b h2) ⟨mw_884, mw_885, mw_886, mw_61, mw_887⟩ hd_X8_layer ⟨Nat.le_of_ble_eq_true rfl, Nat.le_of_ble_eq_true rfl, rfl, rfl⟩ (kdk kk_197 (by decide)) (ce_X8 E _ _ _ _ kk_197) (show vwCl[8]? = some (RX8, TX8, 31) from rfl) rfl hl.1 rfl (Nat.le_of_ble_eq_true rfl) dL_law_304 ⟨Nat.le_of_ble_eq_true rfl, Nat.le_of_ble_eq_true rfl⟩ (fun H locs hw => ?_)
  refine lv_icmp_eq (tgt := 952) hx hb dL_law_307 (by decide) (fun c1 => ?_) (fun c1 => absurd h3 c1)
  exact hk _ _ _ _ H locs h4 hw
set_option maxHeartbeats 4000000 in
set_option maxRecDepth 100000 in
theorem law_jar {p : Program} {l : Launch} {e : Env} {s : State} {m : MethodId} {below : List Frame} {meth : Method} {c : Code} {E : EE} {b bs L : Nat} {xs : Nat → Int32} {I : Mem → Int64 → Mem → Int64 → Prop} (X : CX E p s m #[Value.ref bs] c code 4 RL) (hX : va_X bs L xs s s.heap) (hbl : bs < s.heap.size) (hbA : ¬ AA b bs) (hS : Sim_jar I) {x3 : Int32} (hi : ∀ j : Int32, 1 ≤ j → j ≤ 4 → vp_in (x3 + j) L) {ls : Array Slot} (hl : lv_has ls 4 [(0, .ref bs), (1, .ref (b + 0)), (2, .ref (b + 197)), (3, .int x3)]) {MC : Mem} {TC : Int64} {MM : Mem} {TM : Int64} {H : Heap} {locs : List Loc} (hI : I MC TC MM TM) (hw : WW E b MC TC MM TM s H locs) (hk : ∀ (MC : Mem) (TC : Int64) (MM : Mem) (TM : Int64) (H : Heap) (locs : List Loc), I MC TC MM TM → WW E b MC TC MM TM s H locs → W p l e room_1 s m #[Value.ref bs] below meth c H locs 600000 7302250 (lw_Z below #[Value.ref bs] s) (F0 m 952 ls [])) : W p l e room_1 s m #[Value.ref bs] below meth c H locs 600000 7302250 (lw_Z below #[Value.ref bs] s) (F0 m 312 ls []) := by
  have hx := X.1
  have hb := X.2.1
  obtain ⟨u, v, h1, h2, h3, h4⟩ := hS MC TC MM TM hI (xs (x3 + 1).toNatClampNeg) (xs (x3 + 2).toNatClampNeg)
  refine lv_aload_n hx hb dL_law_312 rfl (lv_at hl 1 rfl) ?_
  refine lv_aload_n hx hb dL_law_313 rfl (lv_at hl 0 rfl) ?_
  refine lv_iload_n hx hb dL_law_314 rfl (lv_at hl 3 rfl) ?_
  refine lv_iconst (v := 1) hx hb dL_law_315 (by decide) ?_
  refine lv_iadd hx hb dL_law_316 ?_
  refine va_sld hx hb hX hbl hbA hw.2 (hi 1 (by decide) (by decide)) dL_law_317 ?_
  refine lv_aload_n hx hb dL_law_318 rfl (lv_at hl 0 rfl) ?_
  refine lv_iload_n hx hb dL_law_319 rfl (lv_at hl 3 rfl) ?_
  refine lv_iconst (v := 2) hx hb dL_law_320 (by decide) ?_
  refine lv_iadd hx hb dL_law_321 ?_
  refine va_sld hx hb hX hbl hbA hw.2 (hi 2 (by decide) (by decide)) dL_law_322 ?_
  refine LcVi (As := [.int (xs (x3 + 1).toNatClampNeg), .int (xs (x3 + 2).toNatClampNeg)]) X hw (ctX7_jar l E b h1) ⟨mw_425, mw_426, mw_427, mw_52, mw_428⟩ hd_X7_jar ⟨Nat.le_of_ble_eq_true rfl, Nat.le_of_ble_eq_true rfl, rfl, rfl⟩ (kdk kk_0 (by decide)) (ce_X7 E _ _ _ _ kk_0) (show vwCl[7]? = some (RX7, TX7, 11) from rfl) rfl hl.1 rfl (Nat.le_of_ble_eq_true rfl) dL_law_323 ⟨Nat.le_of_ble_eq_true rfl, Nat.le_of_ble_eq_true rfl⟩ (fun H locs hw => ?_)
  refine lv_aload_n hx hb dL_law_326 rfl (lv_at hl 2 rfl) ?_
  refine lv_aload_n hx hb dL_law_327 rfl (lv_at hl 0 rfl) ?_
  refine lv_iload_n hx hb dL_law_328 rfl (lv_at hl 3 rfl) ?_
  refine lv_iconst (v := 1) hx hb dL_law_329 (by decide) ?_
  refine lv_iadd hx hb dL_law_330 ?_
  refine va_sld hx hb hX hbl hbA hw.2 (hi 1 (by decide) (by decide)) dL_law_331 ?_
  refine lv_aload_n hx hb dL_law_332 rfl (lv_at hl 0 rfl) ?_
  refine lv_iload_n hx hb dL_law_333 rfl (lv_at hl 3 rfl) ?_
  refine lv_iconst (v := 2) hx hb dL_law_334 (by decide) ?_
  refine lv_iadd hx hb dL_law_335 ?_
  refine va_sld hx hb hX hbl hbA hw.2 (hi 2 (by decide) (by decide)) dL_law_336 ?_
  refine LcVi (As := [.int (xs (x3 + 1).toNatClampNeg), .int (xs (x3 + 2).toNatClampNeg)]) X hw (ctX8_jar l E b h2) ⟨mw_888, mw_889, mw_890, mw_61, mw_891⟩ hd_X8_jar ⟨Nat.le_of_ble_eq_true rfl, Nat.le_of_ble_eq_true rfl, rfl, rfl⟩ (kdk kk_197 (by decide)) (ce_X8 E _ _ _ _ kk_197) (show vwCl[8]? = some (RX8, TX8, 31) from rfl) rfl hl.1 rfl (Nat.le_of_ble_eq_true rfl) dL_law_337 ⟨Nat.le_of_ble_eq_true rfl, Nat.le_of_ble_eq_true rfl⟩ (fun H locs hw => ?_)
  refine lv_icmp_eq (tgt := 952) hx hb dL_law_340 (by decide) (fun c1 => ?_) (fun c1 => absurd h3 c1)
  exact hk _ _ _ _ H locs h4 hw
set_option maxHeartbeats 4000000 in
set_option maxRecDepth 100000 in
theorem law_days {p : Program} {l : Launch} {e : Env} {s : State} {m : MethodId} {below : List Frame} {meth : Method} {c : Code} {E : EE} {b bs L : Nat} {xs : Nat → Int32} {I : Mem → Int64 → Mem → Int64 → Prop} (X : CX E p s m #[Value.ref bs] c code 4 RL) (hX : va_X bs L xs s s.heap) (hbl : bs < s.heap.size) (hbA : ¬ AA b bs) (hS : Sim_days I) {x3 : Int32} (hi : ∀ j : Int32, 1 ≤ j → j ≤ 4 → vp_in (x3 + j) L) {ls : Array Slot} (hl : lv_has ls 4 [(0, .ref bs), (1, .ref (b + 0)), (2, .ref (b + 197)), (3, .int x3)]) {MC : Mem} {TC : Int64} {MM : Mem} {TM : Int64} {H : Heap} {locs : List Loc} (hI : I MC TC MM TM) (hw : WW E b MC TC MM TM s H locs) (hk : ∀ (MC : Mem) (TC : Int64) (MM : Mem) (TM : Int64) (H : Heap) (locs : List Loc), I MC TC MM TM → WW E b MC TC MM TM s H locs → W p l e room_1 s m #[Value.ref bs] below meth c H locs 600000 7302250 (lw_Z below #[Value.ref bs] s) (F0 m 952 ls [])) : W p l e room_1 s m #[Value.ref bs] below meth c H locs 600000 7302250 (lw_Z below #[Value.ref bs] s) (F0 m 345 ls []) := by
  have hx := X.1
  have hb := X.2.1
  obtain ⟨u, v, h1, h2, h3, h4⟩ := hS MC TC MM TM hI (xs (x3 + 1).toNatClampNeg)
  refine lv_aload_n hx hb dL_law_345 rfl (lv_at hl 1 rfl) ?_
  refine lv_aload_n hx hb dL_law_346 rfl (lv_at hl 0 rfl) ?_
  refine lv_iload_n hx hb dL_law_347 rfl (lv_at hl 3 rfl) ?_
  refine lv_iconst (v := 1) hx hb dL_law_348 (by decide) ?_
  refine lv_iadd hx hb dL_law_349 ?_
  refine va_sld hx hb hX hbl hbA hw.2 (hi 1 (by decide) (by decide)) dL_law_350 ?_
  refine LcVi (As := [.int (xs (x3 + 1).toNatClampNeg)]) X hw (ctX7_days l E b h1) ⟨mw_439, mw_440, mw_441, mw_52, mw_442⟩ hd_X7_days ⟨Nat.le_of_ble_eq_true rfl, Nat.le_of_ble_eq_true rfl, rfl, rfl⟩ (kdk kk_0 (by decide)) (ce_X7 E _ _ _ _ kk_0) (show vwCl[7]? = some (RX7, TX7, 11) from rfl) rfl hl.1 rfl (Nat.le_of_ble_eq_true rfl) dL_law_351 ⟨Nat.le_of_ble_eq_true rfl, Nat.le_of_ble_eq_true rfl⟩ (fun H locs hw => ?_)
  refine lv_aload_n hx hb dL_law_354 rfl (lv_at hl 2 rfl) ?_
  refine lv_aload_n hx hb dL_law_355 rfl (lv_at hl 0 rfl) ?_
  refine lv_iload_n hx hb dL_law_356 rfl (lv_at hl 3 rfl) ?_
  refine lv_iconst (v := 1) hx hb dL_law_357 (by decide) ?_
  refine lv_iadd hx hb dL_law_358 ?_
  refine va_sld hx hb hX hbl hbA hw.2 (hi 1 (by decide) (by decide)) dL_law_359 ?_
  refine LcVi (As := [.int (xs (x3 + 1).toNatClampNeg)]) X hw (ctX8_days l E b h2) ⟨mw_898, mw_899, mw_900, mw_61, mw_901⟩ hd_X8_days ⟨Nat.le_of_ble_eq_true rfl, Nat.le_of_ble_eq_true rfl, rfl, rfl⟩ (kdk kk_197 (by decide)) (ce_X8 E _ _ _ _ kk_197) (show vwCl[8]? = some (RX8, TX8, 31) from rfl) rfl hl.1 rfl (Nat.le_of_ble_eq_true rfl) dL_law_360 ⟨Nat.le_of_ble_eq_true rfl, Nat.le_of_ble_eq_true rfl⟩ (fun H locs hw => ?_)
  refine lv_icmp_eq (tgt := 952) hx hb dL_law_363 (by decide) (fun c1 => ?_) (fun c1 => absurd h3 c1)
  exact hk _ _ _ _ H locs h4 hw
set_option maxHeartbeats 4000000 in
set_option maxRecDepth 100000 in
theorem law_minds {p : Program} {l : Launch} {e : Env} {s : State} {m : MethodId} {below : List Frame} {meth : Method} {c : Code} {E : EE} {b bs L : Nat} {xs : Nat → Int32} {I : Mem → Int64 → Mem → Int64 → Prop} (X : CX E p s m #[Value.ref bs] c code 4 RL) (hX : va_X bs L xs s s.heap) (hbl : bs < s.heap.size) (hbA : ¬ AA b bs) (hS : Sim_minds I) {x3 : Int32} (hi : ∀ j : Int32, 1 ≤ j → j ≤ 4 → vp_in (x3 + j) L) {ls : Array Slot} (hl : lv_has ls 4 [(0, .ref bs), (1, .ref (b + 0)), (2, .ref (b + 197)), (3, .int x3)]) {MC : Mem} {TC : Int64} {MM : Mem} {TM : Int64} {H : Heap} {locs : List Loc} (hI : I MC TC MM TM) (hw : WW E b MC TC MM TM s H locs) (hk : ∀ (MC : Mem) (TC : Int64) (MM : Mem) (TM : Int64) (H : Heap) (locs : List Loc), I MC TC MM TM → WW E b MC TC MM TM s H locs → W p l e room_1 s m #[Value.ref bs] below meth c H locs 600000 7302250 (lw_Z below #[Value.ref bs] s) (F0 m 952 ls [])) : W p l e room_1 s m #[Value.ref bs] below meth c H locs 600000 7302250 (lw_Z below #[Value.ref bs] s) (F0 m 368 ls []) := by
  have hx := X.1
  have hb := X.2.1
  obtain ⟨u, v, h1, h2, h3, h4⟩ := hS MC TC MM TM hI (xs (x3 + 1).toNatClampNeg) (xs (x3 + 2).toNatClampNeg)
  refine lv_aload_n hx hb dL_law_368 rfl (lv_at hl 1 rfl) ?_
  refine lv_aload_n hx hb dL_law_369 rfl (lv_at hl 0 rfl) ?_
  refine lv_iload_n hx hb dL_law_370 rfl (lv_at hl 3 rfl) ?_
  refine lv_iconst (v := 1) hx hb dL_law_371 (by decide) ?_
  refine lv_iadd hx hb dL_law_372 ?_
  refine va_sld hx hb hX hbl hbA hw.2 (hi 1 (by decide) (by decide)) dL_law_373 ?_
  refine lv_aload_n hx hb dL_law_374 rfl (lv_at hl 0 rfl) ?_
  refine lv_iload_n hx hb dL_law_375 rfl (lv_at hl 3 rfl) ?_
  refine lv_iconst (v := 2) hx hb dL_law_376 (by decide) ?_
  refine lv_iadd hx hb dL_law_377 ?_
  refine va_sld hx hb hX hbl hbA hw.2 (hi 2 (by decide) (by decide)) dL_law_378 ?_
  refine LcVi (As := [.int (xs (x3 + 1).toNatClampNeg), .int (xs (x3 + 2).toNatClampNeg)]) X hw (ctX7_minds l E b h1) ⟨mw_472, mw_473, mw_474, mw_52, mw_475⟩ hd_X7_minds ⟨Nat.le_of_ble_eq_true rfl, Nat.le_of_ble_eq_true rfl, rfl, rfl⟩ (kdk kk_0 (by decide)) (ce_X7 E _ _ _ _ kk_0) (show vwCl[7]? = some (RX7, TX7, 11) from rfl) rfl hl.1 rfl (Nat.le_of_ble_eq_true rfl) dL_law_379 ⟨Nat.le_of_ble_eq_true rfl, Nat.le_of_ble_eq_true rfl⟩ (fun H locs hw => ?_)
  refine lv_aload_n hx hb dL_law_382 rfl (lv_at hl 2 rfl) ?_
  refine lv_aload_n hx hb dL_law_383 rfl (lv_at hl 0 rfl) ?_
  refine lv_iload_n hx hb dL_law_384 rfl (lv_at hl 3 rfl) ?_
  refine lv_iconst (v := 1) hx hb dL_law_385 (by decide) ?_
  refine lv_iadd hx hb dL_law_386 ?_
  refine va_sld hx hb hX hbl hbA hw.2 (hi 1 (by decide) (by decide)) dL_law_387 ?_
  refine lv_aload_n hx hb dL_law_388 rfl (lv_at hl 0 rfl) ?_
  refine lv_iload_n hx hb dL_law_389 rfl (lv_at hl 3 rfl) ?_
  refine lv_iconst (v := 2) hx hb dL_law_390 (by decide) ?_
  refine lv_iadd hx hb dL_law_391 ?_
  refine va_sld hx hb hX hbl hbA hw.2 (hi 2 (by decide) (by decide)) dL_law_392 ?_
  refine LcVi (As := [.int (xs (x3 + 1).toNatClampNeg), .int (xs (x3 + 2).toNatClampNeg)]) X hw (ctX8_minds l E b h2) ⟨mw_918, mw_919, mw_920, mw_61, mw_921⟩ hd_X8_minds ⟨Nat.le_of_ble_eq_true rfl, Nat.le_of_ble_eq_true rfl, rfl, rfl⟩ (kdk kk_197 (by decide)) (ce_X8 E _ _ _ _ kk_197) (show vwCl[8]? = some (RX8, TX8, 31) from rfl) rfl hl.1 rfl (Nat.le_of_ble_eq_true rfl) dL_law_393 ⟨Nat.le_of_ble_eq_true rfl, Nat.le_of_ble_eq_true rfl⟩ (fun H locs hw => ?_)
  refine lv_icmp_eq (tgt := 952) hx hb dL_law_396 (by decide) (fun c1 => ?_) (fun c1 => absurd h3 c1)
  exact hk _ _ _ _ H locs h4 hw
set_option maxHeartbeats 4000000 in
set_option maxRecDepth 100000 in
theorem law_cuts {p : Program} {l : Launch} {e : Env} {s : State} {m : MethodId} {below : List Frame} {meth : Method} {c : Code} {E : EE} {b bs L : Nat} {xs : Nat → Int32} {I : Mem → Int64 → Mem → Int64 → Prop} (X : CX E p s m #[Value.ref bs] c code 4 RL) (hX : va_X bs L xs s s.heap) (hbl : bs < s.heap.size) (hbA : ¬ AA b bs) (hS : Sim_cuts I) {x3 : Int32} (hi : ∀ j : Int32, 1 ≤ j → j ≤ 4 → vp_in (x3 + j) L) {ls : Array Slot} (hl : lv_has ls 4 [(0, .ref bs), (1, .ref (b + 0)), (2, .ref (b + 197)), (3, .int x3)]) {MC : Mem} {TC : Int64} {MM : Mem} {TM : Int64} {H : Heap} {locs : List Loc} (hI : I MC TC MM TM) (hw : WW E b MC TC MM TM s H locs) (hk : ∀ (MC : Mem) (TC : Int64) (MM : Mem) (TM : Int64) (H : Heap) (locs : List Loc), I MC TC MM TM → WW E b MC TC MM TM s H locs → W p l e room_1 s m #[Value.ref bs] below meth c H locs 600000 7302250 (lw_Z below #[Value.ref bs] s) (F0 m 952 ls [])) : W p l e room_1 s m #[Value.ref bs] below meth c H locs 600000 7302250 (lw_Z below #[Value.ref bs] s) (F0 m 401 ls []) := by
  have hx := X.1
  have hb := X.2.1
  obtain ⟨u, v, h1, h2, h3, h4⟩ := hS MC TC MM TM hI (xs (x3 + 1).toNatClampNeg) (xs (x3 + 2).toNatClampNeg)
  refine lv_aload_n hx hb dL_law_401 rfl (lv_at hl 1 rfl) ?_
  refine lv_aload_n hx hb dL_law_402 rfl (lv_at hl 0 rfl) ?_
  refine lv_iload_n hx hb dL_law_403 rfl (lv_at hl 3 rfl) ?_
  refine lv_iconst (v := 1) hx hb dL_law_404 (by decide) ?_
  refine lv_iadd hx hb dL_law_405 ?_
  refine va_sld hx hb hX hbl hbA hw.2 (hi 1 (by decide) (by decide)) dL_law_406 ?_
  refine lv_aload_n hx hb dL_law_407 rfl (lv_at hl 0 rfl) ?_
  refine lv_iload_n hx hb dL_law_408 rfl (lv_at hl 3 rfl) ?_
  refine lv_iconst (v := 2) hx hb dL_law_409 (by decide) ?_
  refine lv_iadd hx hb dL_law_410 ?_
  refine va_sld hx hb hX hbl hbA hw.2 (hi 2 (by decide) (by decide)) dL_law_411 ?_
  refine LcVi (As := [.int (xs (x3 + 1).toNatClampNeg), .int (xs (x3 + 2).toNatClampNeg)]) X hw (ctX7_cuts l E b h1) ⟨mw_476, mw_477, mw_478, mw_52, mw_479⟩ hd_X7_cuts ⟨Nat.le_of_ble_eq_true rfl, Nat.le_of_ble_eq_true rfl, rfl, rfl⟩ (kdk kk_0 (by decide)) (ce_X7 E _ _ _ _ kk_0) (show vwCl[7]? = some (RX7, TX7, 11) from rfl) rfl hl.1 rfl (Nat.le_of_ble_eq_true rfl) dL_law_412 ⟨Nat.le_of_ble_eq_true rfl, Nat.le_of_ble_eq_true rfl⟩ (fun H locs hw => ?_)
  refine lv_aload_n hx hb dL_law_415 rfl (lv_at hl 2 rfl) ?_
  refine lv_aload_n hx hb dL_law_416 rfl (lv_at hl 0 rfl) ?_
  refine lv_iload_n hx hb dL_law_417 rfl (lv_at hl 3 rfl) ?_
  refine lv_iconst (v := 1) hx hb dL_law_418 (by decide) ?_
  refine lv_iadd hx hb dL_law_419 ?_
  refine va_sld hx hb hX hbl hbA hw.2 (hi 1 (by decide) (by decide)) dL_law_420 ?_
  refine lv_aload_n hx hb dL_law_421 rfl (lv_at hl 0 rfl) ?_
  refine lv_iload_n hx hb dL_law_422 rfl (lv_at hl 3 rfl) ?_
  refine lv_iconst (v := 2) hx hb dL_law_423 (by decide) ?_
  refine lv_iadd hx hb dL_law_424 ?_
  refine va_sld hx hb hX hbl hbA hw.2 (hi 2 (by decide) (by decide)) dL_law_425 ?_
  refine LcVi (As := [.int (xs (x3 + 1).toNatClampNeg), .int (xs (x3 + 2).toNatClampNeg)]) X hw (ctX8_cuts l E b h2) ⟨mw_922, mw_923, mw_924, mw_61, mw_925⟩ hd_X8_cuts ⟨Nat.le_of_ble_eq_true rfl, Nat.le_of_ble_eq_true rfl, rfl, rfl⟩ (kdk kk_197 (by decide)) (ce_X8 E _ _ _ _ kk_197) (show vwCl[8]? = some (RX8, TX8, 31) from rfl) rfl hl.1 rfl (Nat.le_of_ble_eq_true rfl) dL_law_426 ⟨Nat.le_of_ble_eq_true rfl, Nat.le_of_ble_eq_true rfl⟩ (fun H locs hw => ?_)
  refine lv_icmp_eq (tgt := 952) hx hb dL_law_429 (by decide) (fun c1 => ?_) (fun c1 => absurd h3 c1)
  exact hk _ _ _ _ H locs h4 hw
set_option maxHeartbeats 4000000 in
set_option maxRecDepth 100000 in
theorem law_changes {p : Program} {l : Launch} {e : Env} {s : State} {m : MethodId} {below : List Frame} {meth : Method} {c : Code} {E : EE} {b bs L : Nat} {xs : Nat → Int32} {I : Mem → Int64 → Mem → Int64 → Prop} (X : CX E p s m #[Value.ref bs] c code 4 RL) (hX : va_X bs L xs s s.heap) (hbl : bs < s.heap.size) (hbA : ¬ AA b bs) (hS : Sim_changes I) {x3 : Int32} (hi : ∀ j : Int32, 1 ≤ j → j ≤ 4 → vp_in (x3 + j) L) {ls : Array Slot} (hl : lv_has ls 4 [(0, .ref bs), (1, .ref (b + 0)), (2, .ref (b + 197)), (3, .int x3)]) {MC : Mem} {TC : Int64} {MM : Mem} {TM : Int64} {H : Heap} {locs : List Loc} (hI : I MC TC MM TM) (hw : WW E b MC TC MM TM s H locs) (hk : ∀ (MC : Mem) (TC : Int64) (MM : Mem) (TM : Int64) (H : Heap) (locs : List Loc), I MC TC MM TM → WW E b MC TC MM TM s H locs → W p l e room_1 s m #[Value.ref bs] below meth c H locs 600000 7302250 (lw_Z below #[Value.ref bs] s) (F0 m 952 ls [])) : W p l e room_1 s m #[Value.ref bs] below meth c H locs 600000 7302250 (lw_Z below #[Value.ref bs] s) (F0 m 434 ls []) := by
  have hx := X.1
  have hb := X.2.1
  obtain ⟨u, v, h1, h2, h3, h4⟩ := hS MC TC MM TM hI (xs (x3 + 1).toNatClampNeg)
  refine lv_aload_n hx hb dL_law_434 rfl (lv_at hl 1 rfl) ?_
  refine lv_aload_n hx hb dL_law_435 rfl (lv_at hl 0 rfl) ?_
  refine lv_iload_n hx hb dL_law_436 rfl (lv_at hl 3 rfl) ?_
  refine lv_iconst (v := 1) hx hb dL_law_437 (by decide) ?_
  refine lv_iadd hx hb dL_law_438 ?_
  refine va_sld hx hb hX hbl hbA hw.2 (hi 1 (by decide) (by decide)) dL_law_439 ?_
  refine LcVi (As := [.int (xs (x3 + 1).toNatClampNeg)]) X hw (ctX7_changes l E b h1) ⟨mw_485, mw_486, mw_487, mw_52, mw_488⟩ hd_X7_changes ⟨Nat.le_of_ble_eq_true rfl, Nat.le_of_ble_eq_true rfl, rfl, rfl⟩ (kdk kk_0 (by decide)) (ce_X7 E _ _ _ _ kk_0) (show vwCl[7]? = some (RX7, TX7, 11) from rfl) rfl hl.1 rfl (Nat.le_of_ble_eq_true rfl) dL_law_440 ⟨Nat.le_of_ble_eq_true rfl, Nat.le_of_ble_eq_true rfl⟩ (fun H locs hw => ?_)
  refine lv_aload_n hx hb dL_law_443 rfl (lv_at hl 2 rfl) ?_
  refine lv_aload_n hx hb dL_law_444 rfl (lv_at hl 0 rfl) ?_
  refine lv_iload_n hx hb dL_law_445 rfl (lv_at hl 3 rfl) ?_
  refine lv_iconst (v := 1) hx hb dL_law_446 (by decide) ?_
  refine lv_iadd hx hb dL_law_447 ?_
  refine va_sld hx hb hX hbl hbA hw.2 (hi 1 (by decide) (by decide)) dL_law_448 ?_
  refine LcVi (As := [.int (xs (x3 + 1).toNatClampNeg)]) X hw (ctX8_changes l E b h2) ⟨mw_926, mw_927, mw_928, mw_61, mw_929⟩ hd_X8_changes ⟨Nat.le_of_ble_eq_true rfl, Nat.le_of_ble_eq_true rfl, rfl, rfl⟩ (kdk kk_197 (by decide)) (ce_X8 E _ _ _ _ kk_197) (show vwCl[8]? = some (RX8, TX8, 31) from rfl) rfl hl.1 rfl (Nat.le_of_ble_eq_true rfl) dL_law_449 ⟨Nat.le_of_ble_eq_true rfl, Nat.le_of_ble_eq_true rfl⟩ (fun H locs hw => ?_)
  refine lv_icmp_eq (tgt := 952) hx hb dL_law_452 (by decide) (fun c1 => ?_) (fun c1 => absurd h3 c1)
  exact hk _ _ _ _ H locs h4 hw
set_option maxHeartbeats 4000000 in
set_option maxRecDepth 100000 in
theorem law_empties {p : Program} {l : Launch} {e : Env} {s : State} {m : MethodId} {below : List Frame} {meth : Method} {c : Code} {E : EE} {b bs L : Nat} {xs : Nat → Int32} {I : Mem → Int64 → Mem → Int64 → Prop} (X : CX E p s m #[Value.ref bs] c code 4 RL) (hX : va_X bs L xs s s.heap) (hbl : bs < s.heap.size) (hbA : ¬ AA b bs) (hS : Sim_empties I) {x3 : Int32} (hi : ∀ j : Int32, 1 ≤ j → j ≤ 4 → vp_in (x3 + j) L) {ls : Array Slot} (hl : lv_has ls 4 [(0, .ref bs), (1, .ref (b + 0)), (2, .ref (b + 197)), (3, .int x3)]) {MC : Mem} {TC : Int64} {MM : Mem} {TM : Int64} {H : Heap} {locs : List Loc} (hI : I MC TC MM TM) (hw : WW E b MC TC MM TM s H locs) (hk : ∀ (MC : Mem) (TC : Int64) (MM : Mem) (TM : Int64) (H : Heap) (locs : List Loc), I MC TC MM TM → WW E b MC TC MM TM s H locs → W p l e room_1 s m #[Value.ref bs] below meth c H locs 600000 7302250 (lw_Z below #[Value.ref bs] s) (F0 m 952 ls [])) : W p l e room_1 s m #[Value.ref bs] below meth c H locs 600000 7302250 (lw_Z below #[Value.ref bs] s) (F0 m 457 ls []) := by
  have hx := X.1
  have hb := X.2.1
  obtain ⟨u, v, h1, h2, h3, h4⟩ := hS MC TC MM TM hI (xs (x3 + 1).toNatClampNeg)
  refine lv_aload_n hx hb dL_law_457 rfl (lv_at hl 1 rfl) ?_
  refine lv_aload_n hx hb dL_law_458 rfl (lv_at hl 0 rfl) ?_
  refine lv_iload_n hx hb dL_law_459 rfl (lv_at hl 3 rfl) ?_
  refine lv_iconst (v := 1) hx hb dL_law_460 (by decide) ?_
  refine lv_iadd hx hb dL_law_461 ?_
  refine va_sld hx hb hX hbl hbA hw.2 (hi 1 (by decide) (by decide)) dL_law_462 ?_
  refine LcVi (As := [.int (xs (x3 + 1).toNatClampNeg)]) X hw (ctX7_empties l E b h1) ⟨mw_489, mw_490, mw_491, mw_52, mw_492⟩ hd_X7_empties ⟨Nat.le_of_ble_eq_true rfl, Nat.le_of_ble_eq_true rfl, rfl, rfl⟩ (kdk kk_0 (by decide)) (ce_X7 E _ _ _ _ kk_0) (show vwCl[7]? = some (RX7, TX7, 11) from rfl) rfl hl.1 rfl (Nat.le_of_ble_eq_true rfl) dL_law_463 ⟨Nat.le_of_ble_eq_true rfl, Nat.le_of_ble_eq_true rfl⟩ (fun H locs hw => ?_)
  refine lv_aload_n hx hb dL_law_466 rfl (lv_at hl 2 rfl) ?_
  refine lv_aload_n hx hb dL_law_467 rfl (lv_at hl 0 rfl) ?_
  refine lv_iload_n hx hb dL_law_468 rfl (lv_at hl 3 rfl) ?_
  refine lv_iconst (v := 1) hx hb dL_law_469 (by decide) ?_
  refine lv_iadd hx hb dL_law_470 ?_
  refine va_sld hx hb hX hbl hbA hw.2 (hi 1 (by decide) (by decide)) dL_law_471 ?_
  refine LcVi (As := [.int (xs (x3 + 1).toNatClampNeg)]) X hw (ctX8_empties l E b h2) ⟨mw_930, mw_931, mw_932, mw_61, mw_933⟩ hd_X8_empties ⟨Nat.le_of_ble_eq_true rfl, Nat.le_of_ble_eq_true rfl, rfl, rfl⟩ (kdk kk_197 (by decide)) (ce_X8 E _ _ _ _ kk_197) (show vwCl[8]? = some (RX8, TX8, 31) from rfl) rfl hl.1 rfl (Nat.le_of_ble_eq_true rfl) dL_law_472 ⟨Nat.le_of_ble_eq_true rfl, Nat.le_of_ble_eq_true rfl⟩ (fun H locs hw => ?_)
  refine lv_icmp_eq (tgt := 952) hx hb dL_law_475 (by decide) (fun c1 => ?_) (fun c1 => absurd h3 c1)
  exact hk _ _ _ _ H locs h4 hw
set_option maxHeartbeats 4000000 in
set_option maxRecDepth 100000 in
theorem law_undo {p : Program} {l : Launch} {e : Env} {s : State} {m : MethodId} {below : List Frame} {meth : Method} {c : Code} {E : EE} {b bs L : Nat} {xs : Nat → Int32} {I : Mem → Int64 → Mem → Int64 → Prop} (X : CX E p s m #[Value.ref bs] c code 4 RL) (hX : va_X bs L xs s s.heap) (hbl : bs < s.heap.size) (hbA : ¬ AA b bs) (hS : Sim_undo I) {x3 : Int32} (hi : ∀ j : Int32, 1 ≤ j → j ≤ 4 → vp_in (x3 + j) L) {ls : Array Slot} (hl : lv_has ls 4 [(0, .ref bs), (1, .ref (b + 0)), (2, .ref (b + 197)), (3, .int x3)]) {MC : Mem} {TC : Int64} {MM : Mem} {TM : Int64} {H : Heap} {locs : List Loc} (hI : I MC TC MM TM) (hw : WW E b MC TC MM TM s H locs) (hk : ∀ (MC : Mem) (TC : Int64) (MM : Mem) (TM : Int64) (H : Heap) (locs : List Loc), I MC TC MM TM → WW E b MC TC MM TM s H locs → W p l e room_1 s m #[Value.ref bs] below meth c H locs 600000 7302250 (lw_Z below #[Value.ref bs] s) (F0 m 952 ls [])) : W p l e room_1 s m #[Value.ref bs] below meth c H locs 600000 7302250 (lw_Z below #[Value.ref bs] s) (F0 m 480 ls []) := by
  have hx := X.1
  have hb := X.2.1
  obtain ⟨u, v, h1, h2, h3, h4⟩ := hS MC TC MM TM hI 
  refine lv_aload_n hx hb dL_law_480 rfl (lv_at hl 1 rfl) ?_
  refine LcVi (As := []) X hw (ctX7_undo l E b h1) ⟨mw_502, mw_503, mw_504, mw_52, mw_505⟩ hd_X7_undo ⟨Nat.le_of_ble_eq_true rfl, Nat.le_of_ble_eq_true rfl, rfl, rfl⟩ (kdk kk_0 (by decide)) (ce_X7 E _ _ _ _ kk_0) (show vwCl[7]? = some (RX7, TX7, 11) from rfl) rfl hl.1 rfl (Nat.le_of_ble_eq_true rfl) dL_law_481 ⟨Nat.le_of_ble_eq_true rfl, Nat.le_of_ble_eq_true rfl⟩ (fun H locs hw => ?_)
  refine lv_aload_n hx hb dL_law_484 rfl (lv_at hl 2 rfl) ?_
  refine LcVi (As := []) X hw (ctX8_undo l E b h2) ⟨mw_938, mw_939, mw_940, mw_61, mw_941⟩ hd_X8_undo ⟨Nat.le_of_ble_eq_true rfl, Nat.le_of_ble_eq_true rfl, rfl, rfl⟩ (kdk kk_197 (by decide)) (ce_X8 E _ _ _ _ kk_197) (show vwCl[8]? = some (RX8, TX8, 31) from rfl) rfl hl.1 rfl (Nat.le_of_ble_eq_true rfl) dL_law_485 ⟨Nat.le_of_ble_eq_true rfl, Nat.le_of_ble_eq_true rfl⟩ (fun H locs hw => ?_)
  refine lv_icmp_eq (tgt := 952) hx hb dL_law_488 (by decide) (fun c1 => ?_) (fun c1 => absurd h3 c1)
  exact hk _ _ _ _ H locs h4 hw
set_option maxHeartbeats 4000000 in
set_option maxRecDepth 100000 in
theorem law_now {p : Program} {l : Launch} {e : Env} {s : State} {m : MethodId} {below : List Frame} {meth : Method} {c : Code} {E : EE} {b bs L : Nat} {xs : Nat → Int32} {I : Mem → Int64 → Mem → Int64 → Prop} (X : CX E p s m #[Value.ref bs] c code 4 RL) (hX : va_X bs L xs s s.heap) (hbl : bs < s.heap.size) (hbA : ¬ AA b bs) (hS : Sim_now I) {x3 : Int32} (hi : ∀ j : Int32, 1 ≤ j → j ≤ 4 → vp_in (x3 + j) L) {ls : Array Slot} (hl : lv_has ls 4 [(0, .ref bs), (1, .ref (b + 0)), (2, .ref (b + 197)), (3, .int x3)]) {MC : Mem} {TC : Int64} {MM : Mem} {TM : Int64} {H : Heap} {locs : List Loc} (hI : I MC TC MM TM) (hw : WW E b MC TC MM TM s H locs) (hk : ∀ (MC : Mem) (TC : Int64) (MM : Mem) (TM : Int64) (H : Heap) (locs : List Loc), I MC TC MM TM → WW E b MC TC MM TM s H locs → W p l e room_1 s m #[Value.ref bs] below meth c H locs 600000 7302250 (lw_Z below #[Value.ref bs] s) (F0 m 952 ls [])) : W p l e room_1 s m #[Value.ref bs] below meth c H locs 600000 7302250 (lw_Z below #[Value.ref bs] s) (F0 m 493 ls []) := by
  have hx := X.1
  have hb := X.2.1
  obtain ⟨u, v, h1, h2, h3, h4⟩ := hS MC TC MM TM hI (xs (x3 + 1).toNatClampNeg)
  refine lv_aload_n hx hb dL_law_493 rfl (lv_at hl 1 rfl) ?_
  refine lv_aload_n hx hb dL_law_494 rfl (lv_at hl 0 rfl) ?_
  refine lv_iload_n hx hb dL_law_495 rfl (lv_at hl 3 rfl) ?_
  refine lv_iconst (v := 1) hx hb dL_law_496 (by decide) ?_
  refine lv_iadd hx hb dL_law_497 ?_
  refine va_sld hx hb hX hbl hbA hw.2 (hi 1 (by decide) (by decide)) dL_law_498 ?_
  refine LcVi (As := [.int (xs (x3 + 1).toNatClampNeg)]) X hw (ctX7_now l E b h1) ⟨mw_510, mw_511, mw_512, mw_52, mw_513⟩ hd_X7_now ⟨Nat.le_of_ble_eq_true rfl, Nat.le_of_ble_eq_true rfl, rfl, rfl⟩ (kdk kk_0 (by decide)) (ce_X7 E _ _ _ _ kk_0) (show vwCl[7]? = some (RX7, TX7, 11) from rfl) rfl hl.1 rfl (Nat.le_of_ble_eq_true rfl) dL_law_499 ⟨Nat.le_of_ble_eq_true rfl, Nat.le_of_ble_eq_true rfl⟩ (fun H locs hw => ?_)
  refine lv_aload_n hx hb dL_law_502 rfl (lv_at hl 2 rfl) ?_
  refine lv_aload_n hx hb dL_law_503 rfl (lv_at hl 0 rfl) ?_
  refine lv_iload_n hx hb dL_law_504 rfl (lv_at hl 3 rfl) ?_
  refine lv_iconst (v := 1) hx hb dL_law_505 (by decide) ?_
  refine lv_iadd hx hb dL_law_506 ?_
  refine va_sld hx hb hX hbl hbA hw.2 (hi 1 (by decide) (by decide)) dL_law_507 ?_
  refine LcVi (As := [.int (xs (x3 + 1).toNatClampNeg)]) X hw (ctX8_now l E b h2) ⟨mw_942, mw_943, mw_944, mw_61, mw_945⟩ hd_X8_now ⟨Nat.le_of_ble_eq_true rfl, Nat.le_of_ble_eq_true rfl, rfl, rfl⟩ (kdk kk_197 (by decide)) (ce_X8 E _ _ _ _ kk_197) (show vwCl[8]? = some (RX8, TX8, 31) from rfl) rfl hl.1 rfl (Nat.le_of_ble_eq_true rfl) dL_law_508 ⟨Nat.le_of_ble_eq_true rfl, Nat.le_of_ble_eq_true rfl⟩ (fun H locs hw => ?_)
  refine lv_icmp_eq (tgt := 952) hx hb dL_law_511 (by decide) (fun c1 => ?_) (fun c1 => absurd h3 c1)
  exact hk _ _ _ _ H locs h4 hw
set_option maxHeartbeats 4000000 in
set_option maxRecDepth 100000 in
theorem law_reads {p : Program} {l : Launch} {e : Env} {s : State} {m : MethodId} {below : List Frame} {meth : Method} {c : Code} {E : EE} {b bs L : Nat} {xs : Nat → Int32} {I : Mem → Int64 → Mem → Int64 → Prop} (X : CX E p s m #[Value.ref bs] c code 4 RL) (hX : va_X bs L xs s s.heap) (hbl : bs < s.heap.size) (hbA : ¬ AA b bs) (hS : Sim_reads I) {x3 : Int32} (hi : ∀ j : Int32, 1 ≤ j → j ≤ 4 → vp_in (x3 + j) L) {ls : Array Slot} (hl : lv_has ls 4 [(0, .ref bs), (1, .ref (b + 0)), (2, .ref (b + 197)), (3, .int x3)]) {MC : Mem} {TC : Int64} {MM : Mem} {TM : Int64} {H : Heap} {locs : List Loc} (hI : I MC TC MM TM) (hw : WW E b MC TC MM TM s H locs) (hk : ∀ (MC : Mem) (TC : Int64) (MM : Mem) (TM : Int64) (H : Heap) (locs : List Loc), I MC TC MM TM → WW E b MC TC MM TM s H locs → W p l e room_1 s m #[Value.ref bs] below meth c H locs 600000 7302250 (lw_Z below #[Value.ref bs] s) (F0 m 952 ls [])) : W p l e room_1 s m #[Value.ref bs] below meth c H locs 600000 7302250 (lw_Z below #[Value.ref bs] s) (F0 m 516 ls []) := by
  have hx := X.1
  have hb := X.2.1
  obtain ⟨u, v, h1, h2, h3, h4⟩ := hS MC TC MM TM hI (xs (x3 + 1).toNatClampNeg) (xs (x3 + 2).toNatClampNeg)
  refine lv_aload_n hx hb dL_law_516 rfl (lv_at hl 1 rfl) ?_
  refine lv_aload_n hx hb dL_law_517 rfl (lv_at hl 0 rfl) ?_
  refine lv_iload_n hx hb dL_law_518 rfl (lv_at hl 3 rfl) ?_
  refine lv_iconst (v := 1) hx hb dL_law_519 (by decide) ?_
  refine lv_iadd hx hb dL_law_520 ?_
  refine va_sld hx hb hX hbl hbA hw.2 (hi 1 (by decide) (by decide)) dL_law_521 ?_
  refine lv_aload_n hx hb dL_law_522 rfl (lv_at hl 0 rfl) ?_
  refine lv_iload_n hx hb dL_law_523 rfl (lv_at hl 3 rfl) ?_
  refine lv_iconst (v := 2) hx hb dL_law_524 (by decide) ?_
  refine lv_iadd hx hb dL_law_525 ?_
  refine va_sld hx hb hX hbl hbA hw.2 (hi 2 (by decide) (by decide)) dL_law_526 ?_
  refine LcVi (As := [.int (xs (x3 + 1).toNatClampNeg), .int (xs (x3 + 2).toNatClampNeg)]) X hw (ctX7_reads l E b h1) ⟨mw_522, mw_523, mw_524, mw_52, mw_525⟩ hd_X7_reads ⟨Nat.le_of_ble_eq_true rfl, Nat.le_of_ble_eq_true rfl, rfl, rfl⟩ (kdk kk_0 (by decide)) (ce_X7 E _ _ _ _ kk_0) (show vwCl[7]? = some (RX7, TX7, 11) from rfl) rfl hl.1 rfl (Nat.le_of_ble_eq_true rfl) dL_law_527 ⟨Nat.le_of_ble_eq_true rfl, Nat.le_of_ble_eq_true rfl⟩ (fun H locs hw => ?_)
  refine lv_aload_n hx hb dL_law_530 rfl (lv_at hl 2 rfl) ?_
  refine lv_aload_n hx hb dL_law_531 rfl (lv_at hl 0 rfl) ?_
  refine lv_iload_n hx hb dL_law_532 rfl (lv_at hl 3 rfl) ?_
  refine lv_iconst (v := 1) hx hb dL_law_533 (by decide) ?_
  refine lv_iadd hx hb dL_law_534 ?_
  refine va_sld hx hb hX hbl hbA hw.2 (hi 1 (by decide) (by decide)) dL_law_535 ?_
  refine lv_aload_n hx hb dL_law_536 rfl (lv_at hl 0 rfl) ?_
  refine lv_iload_n hx hb dL_law_537 rfl (lv_at hl 3 rfl) ?_
  refine lv_iconst (v := 2) hx hb dL_law_538 (by decide) ?_
  refine lv_iadd hx hb dL_law_539 ?_
  refine va_sld hx hb hX hbl hbA hw.2 (hi 2 (by decide) (by decide)) dL_law_540 ?_
  refine LcVi (As := [.int (xs (x3 + 1).toNatClampNeg), .int (xs (x3 + 2).toNatClampNeg)]) X hw (ctX8_reads l E b h2) ⟨mw_946, mw_947, mw_948, mw_61, mw_949⟩ hd_X8_reads ⟨Nat.le_of_ble_eq_true rfl, Nat.le_of_ble_eq_true rfl, rfl, rfl⟩ (kdk kk_197 (by decide)) (ce_X8 E _ _ _ _ kk_197) (show vwCl[8]? = some (RX8, TX8, 31) from rfl) rfl hl.1 rfl (Nat.le_of_ble_eq_true rfl) dL_law_541 ⟨Nat.le_of_ble_eq_true rfl, Nat.le_of_ble_eq_true rfl⟩ (fun H locs hw => ?_)
  refine lv_icmp_eq (tgt := 952) hx hb dL_law_544 (by decide) (fun c1 => ?_) (fun c1 => absurd h3 c1)
  exact hk _ _ _ _ H locs h4 hw
set_option maxHeartbeats 4000000 in
set_option maxRecDepth 100000 in
theorem law_plan {p : Program} {l : Launch} {e : Env} {s : State} {m : MethodId} {below : List Frame} {meth : Method} {c : Code} {E : EE} {b bs L : Nat} {xs : Nat → Int32} {I : Mem → Int64 → Mem → Int64 → Prop} (X : CX E p s m #[Value.ref bs] c code 4 RL) (hX : va_X bs L xs s s.heap) (hbl : bs < s.heap.size) (hbA : ¬ AA b bs) (hS : Sim_plan I) {x3 : Int32} (hi : ∀ j : Int32, 1 ≤ j → j ≤ 4 → vp_in (x3 + j) L) {ls : Array Slot} (hl : lv_has ls 4 [(0, .ref bs), (1, .ref (b + 0)), (2, .ref (b + 197)), (3, .int x3)]) {MC : Mem} {TC : Int64} {MM : Mem} {TM : Int64} {H : Heap} {locs : List Loc} (hI : I MC TC MM TM) (hw : WW E b MC TC MM TM s H locs) (hk : ∀ (MC : Mem) (TC : Int64) (MM : Mem) (TM : Int64) (H : Heap) (locs : List Loc), I MC TC MM TM → WW E b MC TC MM TM s H locs → W p l e room_1 s m #[Value.ref bs] below meth c H locs 600000 7302250 (lw_Z below #[Value.ref bs] s) (F0 m 952 ls [])) : W p l e room_1 s m #[Value.ref bs] below meth c H locs 600000 7302250 (lw_Z below #[Value.ref bs] s) (F0 m 549 ls []) := by
  have hx := X.1
  have hb := X.2.1
  obtain ⟨u, v, h1, h2, h3, h4⟩ := hS MC TC MM TM hI (xs (x3 + 1).toNatClampNeg) (xs (x3 + 2).toNatClampNeg) (xs (x3 + 3).toNatClampNeg) (xs (x3 + 4).toNatClampNeg)
  refine lv_aload_n hx hb dL_law_549 rfl (lv_at hl 1 rfl) ?_
  refine lv_aload_n hx hb dL_law_550 rfl (lv_at hl 0 rfl) ?_
  refine lv_iload_n hx hb dL_law_551 rfl (lv_at hl 3 rfl) ?_
  refine lv_iconst (v := 1) hx hb dL_law_552 (by decide) ?_
  refine lv_iadd hx hb dL_law_553 ?_
  refine va_sld hx hb hX hbl hbA hw.2 (hi 1 (by decide) (by decide)) dL_law_554 ?_
  refine lv_aload_n hx hb dL_law_555 rfl (lv_at hl 0 rfl) ?_
  refine lv_iload_n hx hb dL_law_556 rfl (lv_at hl 3 rfl) ?_
  refine lv_iconst (v := 2) hx hb dL_law_557 (by decide) ?_
  refine lv_iadd hx hb dL_law_558 ?_
  refine va_sld hx hb hX hbl hbA hw.2 (hi 2 (by decide) (by decide)) dL_law_559 ?_
  refine lv_aload_n hx hb dL_law_560 rfl (lv_at hl 0 rfl) ?_
  refine lv_iload_n hx hb dL_law_561 rfl (lv_at hl 3 rfl) ?_
  refine lv_iconst (v := 3) hx hb dL_law_562 (by decide) ?_
  refine lv_iadd hx hb dL_law_563 ?_
  refine va_sld hx hb hX hbl hbA hw.2 (hi 3 (by decide) (by decide)) dL_law_564 ?_
  refine lv_aload_n hx hb dL_law_565 rfl (lv_at hl 0 rfl) ?_
  refine lv_iload_n hx hb dL_law_566 rfl (lv_at hl 3 rfl) ?_
  refine lv_iconst (v := 4) hx hb dL_law_567 (by decide) ?_
  refine lv_iadd hx hb dL_law_568 ?_
  refine va_sld hx hb hX hbl hbA hw.2 (hi 4 (by decide) (by decide)) dL_law_569 ?_
  refine LcVi (As := [.int (xs (x3 + 1).toNatClampNeg), .int (xs (x3 + 2).toNatClampNeg), .int (xs (x3 + 3).toNatClampNeg), .int (xs (x3 + 4).toNatClampNeg)]) X hw (ctX7_plan l E b h1) ⟨mw_537, mw_538, mw_539, mw_52, mw_540⟩ hd_X7_plan ⟨Nat.le_of_ble_eq_true rfl, Nat.le_of_ble_eq_true rfl, rfl, rfl⟩ (kdk kk_0 (by decide)) (ce_X7 E _ _ _ _ kk_0) (show vwCl[7]? = some (RX7, TX7, 11) from rfl) rfl hl.1 rfl (Nat.le_of_ble_eq_true rfl) dL_law_570 ⟨Nat.le_of_ble_eq_true rfl, Nat.le_of_ble_eq_true rfl⟩ (fun H locs hw => ?_)
  refine lv_aload_n hx hb dL_law_573 rfl (lv_at hl 2 rfl) ?_
  refine lv_aload_n hx hb dL_law_574 rfl (lv_at hl 0 rfl) ?_
  refine lv_iload_n hx hb dL_law_575 rfl (lv_at hl 3 rfl) ?_
  refine lv_iconst (v := 1) hx hb dL_law_576 (by decide) ?_
  refine lv_iadd hx hb dL_law_577 ?_
  refine va_sld hx hb hX hbl hbA hw.2 (hi 1 (by decide) (by decide)) dL_law_578 ?_
  refine lv_aload_n hx hb dL_law_579 rfl (lv_at hl 0 rfl) ?_
  refine lv_iload_n hx hb dL_law_580 rfl (lv_at hl 3 rfl) ?_
  refine lv_iconst (v := 2) hx hb dL_law_581 (by decide) ?_
  refine lv_iadd hx hb dL_law_582 ?_
  refine va_sld hx hb hX hbl hbA hw.2 (hi 2 (by decide) (by decide)) dL_law_583 ?_
  refine lv_aload_n hx hb dL_law_584 rfl (lv_at hl 0 rfl) ?_
  refine lv_iload_n hx hb dL_law_585 rfl (lv_at hl 3 rfl) ?_
  refine lv_iconst (v := 3) hx hb dL_law_586 (by decide) ?_
  refine lv_iadd hx hb dL_law_587 ?_
  refine va_sld hx hb hX hbl hbA hw.2 (hi 3 (by decide) (by decide)) dL_law_588 ?_
  refine lv_aload_n hx hb dL_law_589 rfl (lv_at hl 0 rfl) ?_
  refine lv_iload_n hx hb dL_law_590 rfl (lv_at hl 3 rfl) ?_
  refine lv_iconst (v := 4) hx hb dL_law_591 (by decide) ?_
  refine lv_iadd hx hb dL_law_592 ?_
  refine va_sld hx hb hX hbl hbA hw.2 (hi 4 (by decide) (by decide)) dL_law_593 ?_
  refine LcVi (As := [.int (xs (x3 + 1).toNatClampNeg), .int (xs (x3 + 2).toNatClampNeg), .int (xs (x3 + 3).toNatClampNeg), .int (xs (x3 + 4).toNatClampNeg)]) X hw (ctX8_plan l E b h2) ⟨mw_950, mw_951, mw_952, mw_61, mw_953⟩ hd_X8_plan ⟨Nat.le_of_ble_eq_true rfl, Nat.le_of_ble_eq_true rfl, rfl, rfl⟩ (kdk kk_197 (by decide)) (ce_X8 E _ _ _ _ kk_197) (show vwCl[8]? = some (RX8, TX8, 31) from rfl) rfl hl.1 rfl (Nat.le_of_ble_eq_true rfl) dL_law_594 ⟨Nat.le_of_ble_eq_true rfl, Nat.le_of_ble_eq_true rfl⟩ (fun H locs hw => ?_)
  refine lv_icmp_eq (tgt := 952) hx hb dL_law_597 (by decide) (fun c1 => ?_) (fun c1 => absurd h3 c1)
  exact hk _ _ _ _ H locs h4 hw
set_option maxHeartbeats 4000000 in
set_option maxRecDepth 100000 in
theorem law_least {p : Program} {l : Launch} {e : Env} {s : State} {m : MethodId} {below : List Frame} {meth : Method} {c : Code} {E : EE} {b bs L : Nat} {xs : Nat → Int32} {I : Mem → Int64 → Mem → Int64 → Prop} (X : CX E p s m #[Value.ref bs] c code 4 RL) (hX : va_X bs L xs s s.heap) (hbl : bs < s.heap.size) (hbA : ¬ AA b bs) (hS : Sim_least I) {x3 : Int32} (hi : ∀ j : Int32, 1 ≤ j → j ≤ 4 → vp_in (x3 + j) L) {ls : Array Slot} (hl : lv_has ls 4 [(0, .ref bs), (1, .ref (b + 0)), (2, .ref (b + 197)), (3, .int x3)]) {MC : Mem} {TC : Int64} {MM : Mem} {TM : Int64} {H : Heap} {locs : List Loc} (hI : I MC TC MM TM) (hw : WW E b MC TC MM TM s H locs) (hk : ∀ (MC : Mem) (TC : Int64) (MM : Mem) (TM : Int64) (H : Heap) (locs : List Loc), I MC TC MM TM → WW E b MC TC MM TM s H locs → W p l e room_1 s m #[Value.ref bs] below meth c H locs 600000 7302250 (lw_Z below #[Value.ref bs] s) (F0 m 952 ls [])) : W p l e room_1 s m #[Value.ref bs] below meth c H locs 600000 7302250 (lw_Z below #[Value.ref bs] s) (F0 m 602 ls []) := by
  have hx := X.1
  have hb := X.2.1
  obtain ⟨u, v, h1, h2, h3, h4⟩ := hS MC TC MM TM hI (xs (x3 + 1).toNatClampNeg) (xs (x3 + 2).toNatClampNeg) (xs (x3 + 3).toNatClampNeg)
  refine lv_aload_n hx hb dL_law_602 rfl (lv_at hl 1 rfl) ?_
  refine lv_aload_n hx hb dL_law_603 rfl (lv_at hl 0 rfl) ?_
  refine lv_iload_n hx hb dL_law_604 rfl (lv_at hl 3 rfl) ?_
  refine lv_iconst (v := 1) hx hb dL_law_605 (by decide) ?_
  refine lv_iadd hx hb dL_law_606 ?_
  refine va_sld hx hb hX hbl hbA hw.2 (hi 1 (by decide) (by decide)) dL_law_607 ?_
  refine lv_aload_n hx hb dL_law_608 rfl (lv_at hl 0 rfl) ?_
  refine lv_iload_n hx hb dL_law_609 rfl (lv_at hl 3 rfl) ?_
  refine lv_iconst (v := 2) hx hb dL_law_610 (by decide) ?_
  refine lv_iadd hx hb dL_law_611 ?_
  refine va_sld hx hb hX hbl hbA hw.2 (hi 2 (by decide) (by decide)) dL_law_612 ?_
  refine lv_aload_n hx hb dL_law_613 rfl (lv_at hl 0 rfl) ?_
  refine lv_iload_n hx hb dL_law_614 rfl (lv_at hl 3 rfl) ?_
  refine lv_iconst (v := 3) hx hb dL_law_615 (by decide) ?_
  refine lv_iadd hx hb dL_law_616 ?_
  refine va_sld hx hb hX hbl hbA hw.2 (hi 3 (by decide) (by decide)) dL_law_617 ?_
  refine LcVi (As := [.int (xs (x3 + 1).toNatClampNeg), .int (xs (x3 + 2).toNatClampNeg), .int (xs (x3 + 3).toNatClampNeg)]) X hw (ctX7_least l E b h1) ⟨mw_562, mw_563, mw_564, mw_52, mw_565⟩ hd_X7_least ⟨Nat.le_of_ble_eq_true rfl, Nat.le_of_ble_eq_true rfl, rfl, rfl⟩ (kdk kk_0 (by decide)) (ce_X7 E _ _ _ _ kk_0) (show vwCl[7]? = some (RX7, TX7, 11) from rfl) rfl hl.1 rfl (Nat.le_of_ble_eq_true rfl) dL_law_618 ⟨Nat.le_of_ble_eq_true rfl, Nat.le_of_ble_eq_true rfl⟩ (fun H locs hw => ?_)
  refine lv_aload_n hx hb dL_law_621 rfl (lv_at hl 2 rfl) ?_
  refine lv_aload_n hx hb dL_law_622 rfl (lv_at hl 0 rfl) ?_
  refine lv_iload_n hx hb dL_law_623 rfl (lv_at hl 3 rfl) ?_
  refine lv_iconst (v := 1) hx hb dL_law_624 (by decide) ?_
  refine lv_iadd hx hb dL_law_625 ?_
  refine va_sld hx hb hX hbl hbA hw.2 (hi 1 (by decide) (by decide)) dL_law_626 ?_
  refine lv_aload_n hx hb dL_law_627 rfl (lv_at hl 0 rfl) ?_
  refine lv_iload_n hx hb dL_law_628 rfl (lv_at hl 3 rfl) ?_
  refine lv_iconst (v := 2) hx hb dL_law_629 (by decide) ?_
  refine lv_iadd hx hb dL_law_630 ?_
  refine va_sld hx hb hX hbl hbA hw.2 (hi 2 (by decide) (by decide)) dL_law_631 ?_
  refine lv_aload_n hx hb dL_law_632 rfl (lv_at hl 0 rfl) ?_
  refine lv_iload_n hx hb dL_law_633 rfl (lv_at hl 3 rfl) ?_
  refine lv_iconst (v := 3) hx hb dL_law_634 (by decide) ?_
  refine lv_iadd hx hb dL_law_635 ?_
  refine va_sld hx hb hX hbl hbA hw.2 (hi 3 (by decide) (by decide)) dL_law_636 ?_
  refine LcVi (As := [.int (xs (x3 + 1).toNatClampNeg), .int (xs (x3 + 2).toNatClampNeg), .int (xs (x3 + 3).toNatClampNeg)]) X hw (ctX8_least l E b h2) ⟨mw_962, mw_963, mw_964, mw_61, mw_965⟩ hd_X8_least ⟨Nat.le_of_ble_eq_true rfl, Nat.le_of_ble_eq_true rfl, rfl, rfl⟩ (kdk kk_197 (by decide)) (ce_X8 E _ _ _ _ kk_197) (show vwCl[8]? = some (RX8, TX8, 31) from rfl) rfl hl.1 rfl (Nat.le_of_ble_eq_true rfl) dL_law_637 ⟨Nat.le_of_ble_eq_true rfl, Nat.le_of_ble_eq_true rfl⟩ (fun H locs hw => ?_)
  refine lv_icmp_eq (tgt := 952) hx hb dL_law_640 (by decide) (fun c1 => ?_) (fun c1 => absurd h3 c1)
  exact hk _ _ _ _ H locs h4 hw
set_option maxHeartbeats 4000000 in
set_option maxRecDepth 100000 in
theorem law_wig {p : Program} {l : Launch} {e : Env} {s : State} {m : MethodId} {below : List Frame} {meth : Method} {c : Code} {E : EE} {b bs L : Nat} {xs : Nat → Int32} {I : Mem → Int64 → Mem → Int64 → Prop} (X : CX E p s m #[Value.ref bs] c code 4 RL) (hX : va_X bs L xs s s.heap) (hbl : bs < s.heap.size) (hbA : ¬ AA b bs) (hS : Sim_wig I) {x3 : Int32} (hi : ∀ j : Int32, 1 ≤ j → j ≤ 4 → vp_in (x3 + j) L) {ls : Array Slot} (hl : lv_has ls 4 [(0, .ref bs), (1, .ref (b + 0)), (2, .ref (b + 197)), (3, .int x3)]) {MC : Mem} {TC : Int64} {MM : Mem} {TM : Int64} {H : Heap} {locs : List Loc} (hI : I MC TC MM TM) (hw : WW E b MC TC MM TM s H locs) (hk : ∀ (MC : Mem) (TC : Int64) (MM : Mem) (TM : Int64) (H : Heap) (locs : List Loc), I MC TC MM TM → WW E b MC TC MM TM s H locs → W p l e room_1 s m #[Value.ref bs] below meth c H locs 600000 7302250 (lw_Z below #[Value.ref bs] s) (F0 m 952 ls [])) : W p l e room_1 s m #[Value.ref bs] below meth c H locs 600000 7302250 (lw_Z below #[Value.ref bs] s) (F0 m 645 ls []) := by
  have hx := X.1
  have hb := X.2.1
  obtain ⟨u, v, h1, h2, h3, h4⟩ := hS MC TC MM TM hI (xs (x3 + 1).toNatClampNeg)
  refine lv_aload_n hx hb dL_law_645 rfl (lv_at hl 1 rfl) ?_
  refine lv_aload_n hx hb dL_law_646 rfl (lv_at hl 0 rfl) ?_
  refine lv_iload_n hx hb dL_law_647 rfl (lv_at hl 3 rfl) ?_
  refine lv_iconst (v := 1) hx hb dL_law_648 (by decide) ?_
  refine lv_iadd hx hb dL_law_649 ?_
  refine va_sld hx hb hX hbl hbA hw.2 (hi 1 (by decide) (by decide)) dL_law_650 ?_
  refine LcVi (As := [.int (xs (x3 + 1).toNatClampNeg)]) X hw (ctX7_wig l E b h1) ⟨mw_581, mw_582, mw_583, mw_52, mw_584⟩ hd_X7_wig ⟨Nat.le_of_ble_eq_true rfl, Nat.le_of_ble_eq_true rfl, rfl, rfl⟩ (kdk kk_0 (by decide)) (ce_X7 E _ _ _ _ kk_0) (show vwCl[7]? = some (RX7, TX7, 11) from rfl) rfl hl.1 rfl (Nat.le_of_ble_eq_true rfl) dL_law_651 ⟨Nat.le_of_ble_eq_true rfl, Nat.le_of_ble_eq_true rfl⟩ (fun H locs hw => ?_)
  refine lv_aload_n hx hb dL_law_654 rfl (lv_at hl 2 rfl) ?_
  refine lv_aload_n hx hb dL_law_655 rfl (lv_at hl 0 rfl) ?_
  refine lv_iload_n hx hb dL_law_656 rfl (lv_at hl 3 rfl) ?_
  refine lv_iconst (v := 1) hx hb dL_law_657 (by decide) ?_
  refine lv_iadd hx hb dL_law_658 ?_
  refine va_sld hx hb hX hbl hbA hw.2 (hi 1 (by decide) (by decide)) dL_law_659 ?_
  refine LcVi (As := [.int (xs (x3 + 1).toNatClampNeg)]) X hw (ctX8_wig l E b h2) ⟨mw_976, mw_977, mw_978, mw_61, mw_979⟩ hd_X8_wig ⟨Nat.le_of_ble_eq_true rfl, Nat.le_of_ble_eq_true rfl, rfl, rfl⟩ (kdk kk_197 (by decide)) (ce_X8 E _ _ _ _ kk_197) (show vwCl[8]? = some (RX8, TX8, 31) from rfl) rfl hl.1 rfl (Nat.le_of_ble_eq_true rfl) dL_law_660 ⟨Nat.le_of_ble_eq_true rfl, Nat.le_of_ble_eq_true rfl⟩ (fun H locs hw => ?_)
  refine lv_icmp_eq (tgt := 952) hx hb dL_law_663 (by decide) (fun c1 => ?_) (fun c1 => absurd h3 c1)
  exact hk _ _ _ _ H locs h4 hw
set_option maxHeartbeats 4000000 in
set_option maxRecDepth 100000 in
theorem law_odds {p : Program} {l : Launch} {e : Env} {s : State} {m : MethodId} {below : List Frame} {meth : Method} {c : Code} {E : EE} {b bs L : Nat} {xs : Nat → Int32} {I : Mem → Int64 → Mem → Int64 → Prop} (X : CX E p s m #[Value.ref bs] c code 4 RL) (hX : va_X bs L xs s s.heap) (hbl : bs < s.heap.size) (hbA : ¬ AA b bs) (hS : Sim_odds I) {x3 : Int32} (hi : ∀ j : Int32, 1 ≤ j → j ≤ 4 → vp_in (x3 + j) L) {ls : Array Slot} (hl : lv_has ls 4 [(0, .ref bs), (1, .ref (b + 0)), (2, .ref (b + 197)), (3, .int x3)]) {MC : Mem} {TC : Int64} {MM : Mem} {TM : Int64} {H : Heap} {locs : List Loc} (hI : I MC TC MM TM) (hw : WW E b MC TC MM TM s H locs) (hk : ∀ (MC : Mem) (TC : Int64) (MM : Mem) (TM : Int64) (H : Heap) (locs : List Loc), I MC TC MM TM → WW E b MC TC MM TM s H locs → W p l e room_1 s m #[Value.ref bs] below meth c H locs 600000 7302250 (lw_Z below #[Value.ref bs] s) (F0 m 952 ls [])) : W p l e room_1 s m #[Value.ref bs] below meth c H locs 600000 7302250 (lw_Z below #[Value.ref bs] s) (F0 m 668 ls []) := by
  have hx := X.1
  have hb := X.2.1
  obtain ⟨u, v, h1, h2, h3, h4⟩ := hS MC TC MM TM hI (xs (x3 + 1).toNatClampNeg) (xs (x3 + 2).toNatClampNeg) (xs (x3 + 3).toNatClampNeg) (xs (x3 + 4).toNatClampNeg)
  refine lv_aload_n hx hb dL_law_668 rfl (lv_at hl 1 rfl) ?_
  refine lv_aload_n hx hb dL_law_669 rfl (lv_at hl 0 rfl) ?_
  refine lv_iload_n hx hb dL_law_670 rfl (lv_at hl 3 rfl) ?_
  refine lv_iconst (v := 1) hx hb dL_law_671 (by decide) ?_
  refine lv_iadd hx hb dL_law_672 ?_
  refine va_sld hx hb hX hbl hbA hw.2 (hi 1 (by decide) (by decide)) dL_law_673 ?_
  refine lv_aload_n hx hb dL_law_674 rfl (lv_at hl 0 rfl) ?_
  refine lv_iload_n hx hb dL_law_675 rfl (lv_at hl 3 rfl) ?_
  refine lv_iconst (v := 2) hx hb dL_law_676 (by decide) ?_
  refine lv_iadd hx hb dL_law_677 ?_
  refine va_sld hx hb hX hbl hbA hw.2 (hi 2 (by decide) (by decide)) dL_law_678 ?_
  refine lv_aload_n hx hb dL_law_679 rfl (lv_at hl 0 rfl) ?_
  refine lv_iload_n hx hb dL_law_680 rfl (lv_at hl 3 rfl) ?_
  refine lv_iconst (v := 3) hx hb dL_law_681 (by decide) ?_
  refine lv_iadd hx hb dL_law_682 ?_
  refine va_sld hx hb hX hbl hbA hw.2 (hi 3 (by decide) (by decide)) dL_law_683 ?_
  refine lv_aload_n hx hb dL_law_684 rfl (lv_at hl 0 rfl) ?_
  refine lv_iload_n hx hb dL_law_685 rfl (lv_at hl 3 rfl) ?_
  refine lv_iconst (v := 4) hx hb dL_law_686 (by decide) ?_
  refine lv_iadd hx hb dL_law_687 ?_
  refine va_sld hx hb hX hbl hbA hw.2 (hi 4 (by decide) (by decide)) dL_law_688 ?_
  refine LcVi (As := [.int (xs (x3 + 1).toNatClampNeg), .int (xs (x3 + 2).toNatClampNeg), .int (xs (x3 + 3).toNatClampNeg), .int (xs (x3 + 4).toNatClampNeg)]) X hw (ctX7_odds l E b h1) ⟨mw_602, mw_603, mw_604, mw_52, mw_605⟩ hd_X7_odds ⟨Nat.le_of_ble_eq_true rfl, Nat.le_of_ble_eq_true rfl, rfl, rfl⟩ (kdk kk_0 (by decide)) (ce_X7 E _ _ _ _ kk_0) (show vwCl[7]? = some (RX7, TX7, 11) from rfl) rfl hl.1 rfl (Nat.le_of_ble_eq_true rfl) dL_law_689 ⟨Nat.le_of_ble_eq_true rfl, Nat.le_of_ble_eq_true rfl⟩ (fun H locs hw => ?_)
  refine lv_aload_n hx hb dL_law_692 rfl (lv_at hl 2 rfl) ?_
  refine lv_aload_n hx hb dL_law_693 rfl (lv_at hl 0 rfl) ?_
  refine lv_iload_n hx hb dL_law_694 rfl (lv_at hl 3 rfl) ?_
  refine lv_iconst (v := 1) hx hb dL_law_695 (by decide) ?_
  refine lv_iadd hx hb dL_law_696 ?_
  refine va_sld hx hb hX hbl hbA hw.2 (hi 1 (by decide) (by decide)) dL_law_697 ?_
  refine lv_aload_n hx hb dL_law_698 rfl (lv_at hl 0 rfl) ?_
  refine lv_iload_n hx hb dL_law_699 rfl (lv_at hl 3 rfl) ?_
  refine lv_iconst (v := 2) hx hb dL_law_700 (by decide) ?_
  refine lv_iadd hx hb dL_law_701 ?_
  refine va_sld hx hb hX hbl hbA hw.2 (hi 2 (by decide) (by decide)) dL_law_702 ?_
  refine lv_aload_n hx hb dL_law_703 rfl (lv_at hl 0 rfl) ?_
  refine lv_iload_n hx hb dL_law_704 rfl (lv_at hl 3 rfl) ?_
  refine lv_iconst (v := 3) hx hb dL_law_705 (by decide) ?_
  refine lv_iadd hx hb dL_law_706 ?_
  refine va_sld hx hb hX hbl hbA hw.2 (hi 3 (by decide) (by decide)) dL_law_707 ?_
  refine lv_aload_n hx hb dL_law_708 rfl (lv_at hl 0 rfl) ?_
  refine lv_iload_n hx hb dL_law_709 rfl (lv_at hl 3 rfl) ?_
  refine lv_iconst (v := 4) hx hb dL_law_710 (by decide) ?_
  refine lv_iadd hx hb dL_law_711 ?_
  refine va_sld hx hb hX hbl hbA hw.2 (hi 4 (by decide) (by decide)) dL_law_712 ?_
  refine LcVi (As := [.int (xs (x3 + 1).toNatClampNeg), .int (xs (x3 + 2).toNatClampNeg), .int (xs (x3 + 3).toNatClampNeg), .int (xs (x3 + 4).toNatClampNeg)]) X hw (ctX8_odds l E b h2) ⟨mw_984, mw_985, mw_986, mw_61, mw_987⟩ hd_X8_odds ⟨Nat.le_of_ble_eq_true rfl, Nat.le_of_ble_eq_true rfl, rfl, rfl⟩ (kdk kk_197 (by decide)) (ce_X8 E _ _ _ _ kk_197) (show vwCl[8]? = some (RX8, TX8, 31) from rfl) rfl hl.1 rfl (Nat.le_of_ble_eq_true rfl) dL_law_713 ⟨Nat.le_of_ble_eq_true rfl, Nat.le_of_ble_eq_true rfl⟩ (fun H locs hw => ?_)
  refine lv_icmp_eq (tgt := 952) hx hb dL_law_716 (by decide) (fun c1 => ?_) (fun c1 => absurd h3 c1)
  exact hk _ _ _ _ H locs h4 hw
set_option maxHeartbeats 4000000 in
set_option maxRecDepth 100000 in
theorem law_saw {p : Program} {l : Launch} {e : Env} {s : State} {m : MethodId} {below : List Frame} {meth : Method} {c : Code} {E : EE} {b bs L : Nat} {xs : Nat → Int32} {I : Mem → Int64 → Mem → Int64 → Prop} (X : CX E p s m #[Value.ref bs] c code 4 RL) (hX : va_X bs L xs s s.heap) (hbl : bs < s.heap.size) (hbA : ¬ AA b bs) (hS : Sim_saw I) {x3 : Int32} (hi : ∀ j : Int32, 1 ≤ j → j ≤ 4 → vp_in (x3 + j) L) {ls : Array Slot} (hl : lv_has ls 4 [(0, .ref bs), (1, .ref (b + 0)), (2, .ref (b + 197)), (3, .int x3)]) {MC : Mem} {TC : Int64} {MM : Mem} {TM : Int64} {H : Heap} {locs : List Loc} (hI : I MC TC MM TM) (hw : WW E b MC TC MM TM s H locs) (hk : ∀ (MC : Mem) (TC : Int64) (MM : Mem) (TM : Int64) (H : Heap) (locs : List Loc), I MC TC MM TM → WW E b MC TC MM TM s H locs → W p l e room_1 s m #[Value.ref bs] below meth c H locs 600000 7302250 (lw_Z below #[Value.ref bs] s) (F0 m 952 ls [])) : W p l e room_1 s m #[Value.ref bs] below meth c H locs 600000 7302250 (lw_Z below #[Value.ref bs] s) (F0 m 721 ls []) := by
  have hx := X.1
  have hb := X.2.1
  obtain ⟨u, v, h1, h2, h3, h4⟩ := hS MC TC MM TM hI (xs (x3 + 1).toNatClampNeg)
  refine lv_aload_n hx hb dL_law_721 rfl (lv_at hl 1 rfl) ?_
  refine lv_aload_n hx hb dL_law_722 rfl (lv_at hl 0 rfl) ?_
  refine lv_iload_n hx hb dL_law_723 rfl (lv_at hl 3 rfl) ?_
  refine lv_iconst (v := 1) hx hb dL_law_724 (by decide) ?_
  refine lv_iadd hx hb dL_law_725 ?_
  refine va_sld hx hb hX hbl hbA hw.2 (hi 1 (by decide) (by decide)) dL_law_726 ?_
  refine LcVi (As := [.int (xs (x3 + 1).toNatClampNeg)]) X hw (ctX7_saw l E b h1) ⟨mw_615, mw_616, mw_617, mw_52, mw_618⟩ hd_X7_saw ⟨Nat.le_of_ble_eq_true rfl, Nat.le_of_ble_eq_true rfl, rfl, rfl⟩ (kdk kk_0 (by decide)) (ce_X7 E _ _ _ _ kk_0) (show vwCl[7]? = some (RX7, TX7, 11) from rfl) rfl hl.1 rfl (Nat.le_of_ble_eq_true rfl) dL_law_727 ⟨Nat.le_of_ble_eq_true rfl, Nat.le_of_ble_eq_true rfl⟩ (fun H locs hw => ?_)
  refine lv_aload_n hx hb dL_law_730 rfl (lv_at hl 2 rfl) ?_
  refine lv_aload_n hx hb dL_law_731 rfl (lv_at hl 0 rfl) ?_
  refine lv_iload_n hx hb dL_law_732 rfl (lv_at hl 3 rfl) ?_
  refine lv_iconst (v := 1) hx hb dL_law_733 (by decide) ?_
  refine lv_iadd hx hb dL_law_734 ?_
  refine va_sld hx hb hX hbl hbA hw.2 (hi 1 (by decide) (by decide)) dL_law_735 ?_
  refine LcVi (As := [.int (xs (x3 + 1).toNatClampNeg)]) X hw (ctX8_saw l E b h2) ⟨mw_991, mw_992, mw_993, mw_61, mw_994⟩ hd_X8_saw ⟨Nat.le_of_ble_eq_true rfl, Nat.le_of_ble_eq_true rfl, rfl, rfl⟩ (kdk kk_197 (by decide)) (ce_X8 E _ _ _ _ kk_197) (show vwCl[8]? = some (RX8, TX8, 31) from rfl) rfl hl.1 rfl (Nat.le_of_ble_eq_true rfl) dL_law_736 ⟨Nat.le_of_ble_eq_true rfl, Nat.le_of_ble_eq_true rfl⟩ (fun H locs hw => ?_)
  refine lv_icmp_eq (tgt := 952) hx hb dL_law_739 (by decide) (fun c1 => ?_) (fun c1 => absurd h3 c1)
  exact hk _ _ _ _ H locs h4 hw
set_option maxHeartbeats 4000000 in
set_option maxRecDepth 100000 in
theorem law_lock {p : Program} {l : Launch} {e : Env} {s : State} {m : MethodId} {below : List Frame} {meth : Method} {c : Code} {E : EE} {b bs L : Nat} {xs : Nat → Int32} {I : Mem → Int64 → Mem → Int64 → Prop} (X : CX E p s m #[Value.ref bs] c code 4 RL) (hX : va_X bs L xs s s.heap) (hbl : bs < s.heap.size) (hbA : ¬ AA b bs) (hS : Sim_lock I) {x3 : Int32} (hi : ∀ j : Int32, 1 ≤ j → j ≤ 4 → vp_in (x3 + j) L) {ls : Array Slot} (hl : lv_has ls 4 [(0, .ref bs), (1, .ref (b + 0)), (2, .ref (b + 197)), (3, .int x3)]) {MC : Mem} {TC : Int64} {MM : Mem} {TM : Int64} {H : Heap} {locs : List Loc} (hI : I MC TC MM TM) (hw : WW E b MC TC MM TM s H locs) (hk : ∀ (MC : Mem) (TC : Int64) (MM : Mem) (TM : Int64) (H : Heap) (locs : List Loc), I MC TC MM TM → WW E b MC TC MM TM s H locs → W p l e room_1 s m #[Value.ref bs] below meth c H locs 600000 7302250 (lw_Z below #[Value.ref bs] s) (F0 m 952 ls [])) : W p l e room_1 s m #[Value.ref bs] below meth c H locs 600000 7302250 (lw_Z below #[Value.ref bs] s) (F0 m 744 ls []) := by
  have hx := X.1
  have hb := X.2.1
  obtain ⟨u, v, h1, h2, h3, h4⟩ := hS MC TC MM TM hI (xs (x3 + 1).toNatClampNeg)
  refine lv_aload_n hx hb dL_law_744 rfl (lv_at hl 1 rfl) ?_
  refine lv_aload_n hx hb dL_law_745 rfl (lv_at hl 0 rfl) ?_
  refine lv_iload_n hx hb dL_law_746 rfl (lv_at hl 3 rfl) ?_
  refine lv_iconst (v := 1) hx hb dL_law_747 (by decide) ?_
  refine lv_iadd hx hb dL_law_748 ?_
  refine va_sld hx hb hX hbl hbA hw.2 (hi 1 (by decide) (by decide)) dL_law_749 ?_
  refine LcVi (As := [.int (xs (x3 + 1).toNatClampNeg)]) X hw (ctX7_lock l E b h1) ⟨mw_619, mw_620, mw_621, mw_52, mw_622⟩ hd_X7_lock ⟨Nat.le_of_ble_eq_true rfl, Nat.le_of_ble_eq_true rfl, rfl, rfl⟩ (kdk kk_0 (by decide)) (ce_X7 E _ _ _ _ kk_0) (show vwCl[7]? = some (RX7, TX7, 11) from rfl) rfl hl.1 rfl (Nat.le_of_ble_eq_true rfl) dL_law_750 ⟨Nat.le_of_ble_eq_true rfl, Nat.le_of_ble_eq_true rfl⟩ (fun H locs hw => ?_)
  refine lv_aload_n hx hb dL_law_753 rfl (lv_at hl 2 rfl) ?_
  refine lv_aload_n hx hb dL_law_754 rfl (lv_at hl 0 rfl) ?_
  refine lv_iload_n hx hb dL_law_755 rfl (lv_at hl 3 rfl) ?_
  refine lv_iconst (v := 1) hx hb dL_law_756 (by decide) ?_
  refine lv_iadd hx hb dL_law_757 ?_
  refine va_sld hx hb hX hbl hbA hw.2 (hi 1 (by decide) (by decide)) dL_law_758 ?_
  refine LcVi (As := [.int (xs (x3 + 1).toNatClampNeg)]) X hw (ctX8_lock l E b h2) ⟨mw_995, mw_996, mw_997, mw_61, mw_998⟩ hd_X8_lock ⟨Nat.le_of_ble_eq_true rfl, Nat.le_of_ble_eq_true rfl, rfl, rfl⟩ (kdk kk_197 (by decide)) (ce_X8 E _ _ _ _ kk_197) (show vwCl[8]? = some (RX8, TX8, 31) from rfl) rfl hl.1 rfl (Nat.le_of_ble_eq_true rfl) dL_law_759 ⟨Nat.le_of_ble_eq_true rfl, Nat.le_of_ble_eq_true rfl⟩ (fun H locs hw => ?_)
  refine lv_icmp_eq (tgt := 952) hx hb dL_law_762 (by decide) (fun c1 => ?_) (fun c1 => absurd h3 c1)
  exact hk _ _ _ _ H locs h4 hw
set_option maxHeartbeats 4000000 in
set_option maxRecDepth 100000 in
theorem law_hears {p : Program} {l : Launch} {e : Env} {s : State} {m : MethodId} {below : List Frame} {meth : Method} {c : Code} {E : EE} {b bs L : Nat} {xs : Nat → Int32} {I : Mem → Int64 → Mem → Int64 → Prop} (X : CX E p s m #[Value.ref bs] c code 4 RL) (hX : va_X bs L xs s s.heap) (hbl : bs < s.heap.size) (hbA : ¬ AA b bs) (hS : Sim_hears I) {x3 : Int32} (hi : ∀ j : Int32, 1 ≤ j → j ≤ 4 → vp_in (x3 + j) L) {ls : Array Slot} (hl : lv_has ls 4 [(0, .ref bs), (1, .ref (b + 0)), (2, .ref (b + 197)), (3, .int x3)]) {MC : Mem} {TC : Int64} {MM : Mem} {TM : Int64} {H : Heap} {locs : List Loc} (hI : I MC TC MM TM) (hw : WW E b MC TC MM TM s H locs) (hk : ∀ (MC : Mem) (TC : Int64) (MM : Mem) (TM : Int64) (H : Heap) (locs : List Loc), I MC TC MM TM → WW E b MC TC MM TM s H locs → W p l e room_1 s m #[Value.ref bs] below meth c H locs 600000 7302250 (lw_Z below #[Value.ref bs] s) (F0 m 952 ls [])) : W p l e room_1 s m #[Value.ref bs] below meth c H locs 600000 7302250 (lw_Z below #[Value.ref bs] s) (F0 m 767 ls []) := by
  have hx := X.1
  have hb := X.2.1
  obtain ⟨u, v, h1, h2, h3, h4⟩ := hS MC TC MM TM hI (xs (x3 + 1).toNatClampNeg) (xs (x3 + 2).toNatClampNeg)
  refine lv_aload_n hx hb dL_law_767 rfl (lv_at hl 1 rfl) ?_
  refine lv_aload_n hx hb dL_law_768 rfl (lv_at hl 0 rfl) ?_
  refine lv_iload_n hx hb dL_law_769 rfl (lv_at hl 3 rfl) ?_
  refine lv_iconst (v := 1) hx hb dL_law_770 (by decide) ?_
  refine lv_iadd hx hb dL_law_771 ?_
  refine va_sld hx hb hX hbl hbA hw.2 (hi 1 (by decide) (by decide)) dL_law_772 ?_
  refine lv_aload_n hx hb dL_law_773 rfl (lv_at hl 0 rfl) ?_
  refine lv_iload_n hx hb dL_law_774 rfl (lv_at hl 3 rfl) ?_
  refine lv_iconst (v := 2) hx hb dL_law_775 (by decide) ?_
  refine lv_iadd hx hb dL_law_776 ?_
  refine va_sld hx hb hX hbl hbA hw.2 (hi 2 (by decide) (by decide)) dL_law_777 ?_
  refine LcVi (As := [.int (xs (x3 + 1).toNatClampNeg), .int (xs (x3 + 2).toNatClampNeg)]) X hw (ctX7_hears l E b h1) ⟨mw_637, mw_638, mw_639, mw_52, mw_640⟩ hd_X7_hears ⟨Nat.le_of_ble_eq_true rfl, Nat.le_of_ble_eq_true rfl, rfl, rfl⟩ (kdk kk_0 (by decide)) (ce_X7 E _ _ _ _ kk_0) (show vwCl[7]? = some (RX7, TX7, 11) from rfl) rfl hl.1 rfl (Nat.le_of_ble_eq_true rfl) dL_law_778 ⟨Nat.le_of_ble_eq_true rfl, Nat.le_of_ble_eq_true rfl⟩ (fun H locs hw => ?_)
  refine lv_aload_n hx hb dL_law_781 rfl (lv_at hl 2 rfl) ?_
  refine lv_aload_n hx hb dL_law_782 rfl (lv_at hl 0 rfl) ?_
  refine lv_iload_n hx hb dL_law_783 rfl (lv_at hl 3 rfl) ?_
  refine lv_iconst (v := 1) hx hb dL_law_784 (by decide) ?_
  refine lv_iadd hx hb dL_law_785 ?_
  refine va_sld hx hb hX hbl hbA hw.2 (hi 1 (by decide) (by decide)) dL_law_786 ?_
  refine lv_aload_n hx hb dL_law_787 rfl (lv_at hl 0 rfl) ?_
  refine lv_iload_n hx hb dL_law_788 rfl (lv_at hl 3 rfl) ?_
  refine lv_iconst (v := 2) hx hb dL_law_789 (by decide) ?_
  refine lv_iadd hx hb dL_law_790 ?_
  refine va_sld hx hb hX hbl hbA hw.2 (hi 2 (by decide) (by decide)) dL_law_791 ?_
  refine LcVi (As := [.int (xs (x3 + 1).toNatClampNeg), .int (xs (x3 + 2).toNatClampNeg)]) X hw (ctX8_hears l E b h2) ⟨mw_1003, mw_1004, mw_1005, mw_61, mw_1006⟩ hd_X8_hears ⟨Nat.le_of_ble_eq_true rfl, Nat.le_of_ble_eq_true rfl, rfl, rfl⟩ (kdk kk_197 (by decide)) (ce_X8 E _ _ _ _ kk_197) (show vwCl[8]? = some (RX8, TX8, 31) from rfl) rfl hl.1 rfl (Nat.le_of_ble_eq_true rfl) dL_law_792 ⟨Nat.le_of_ble_eq_true rfl, Nat.le_of_ble_eq_true rfl⟩ (fun H locs hw => ?_)
  refine lv_icmp_eq (tgt := 952) hx hb dL_law_795 (by decide) (fun c1 => ?_) (fun c1 => absurd h3 c1)
  exact hk _ _ _ _ H locs h4 hw
set_option maxHeartbeats 4000000 in
set_option maxRecDepth 100000 in
theorem law_sets {p : Program} {l : Launch} {e : Env} {s : State} {m : MethodId} {below : List Frame} {meth : Method} {c : Code} {E : EE} {b bs L : Nat} {xs : Nat → Int32} {I : Mem → Int64 → Mem → Int64 → Prop} (X : CX E p s m #[Value.ref bs] c code 4 RL) (hX : va_X bs L xs s s.heap) (hbl : bs < s.heap.size) (hbA : ¬ AA b bs) (hS : Sim_sets I) {x3 : Int32} (hi : ∀ j : Int32, 1 ≤ j → j ≤ 4 → vp_in (x3 + j) L) {ls : Array Slot} (hl : lv_has ls 4 [(0, .ref bs), (1, .ref (b + 0)), (2, .ref (b + 197)), (3, .int x3)]) {MC : Mem} {TC : Int64} {MM : Mem} {TM : Int64} {H : Heap} {locs : List Loc} (hI : I MC TC MM TM) (hw : WW E b MC TC MM TM s H locs) (hk : ∀ (MC : Mem) (TC : Int64) (MM : Mem) (TM : Int64) (H : Heap) (locs : List Loc), I MC TC MM TM → WW E b MC TC MM TM s H locs → W p l e room_1 s m #[Value.ref bs] below meth c H locs 600000 7302250 (lw_Z below #[Value.ref bs] s) (F0 m 952 ls [])) : W p l e room_1 s m #[Value.ref bs] below meth c H locs 600000 7302250 (lw_Z below #[Value.ref bs] s) (F0 m 800 ls []) := by
  have hx := X.1
  have hb := X.2.1
  obtain ⟨u, v, h1, h2, h3, h4⟩ := hS MC TC MM TM hI (xs (x3 + 1).toNatClampNeg)
  refine lv_aload_n hx hb dL_law_800 rfl (lv_at hl 1 rfl) ?_
  refine lv_aload_n hx hb dL_law_801 rfl (lv_at hl 0 rfl) ?_
  refine lv_iload_n hx hb dL_law_802 rfl (lv_at hl 3 rfl) ?_
  refine lv_iconst (v := 1) hx hb dL_law_803 (by decide) ?_
  refine lv_iadd hx hb dL_law_804 ?_
  refine va_sld hx hb hX hbl hbA hw.2 (hi 1 (by decide) (by decide)) dL_law_805 ?_
  refine LcVi (As := [.int (xs (x3 + 1).toNatClampNeg)]) X hw (ctX7_sets l E b h1) ⟨mw_641, mw_642, mw_643, mw_52, mw_644⟩ hd_X7_sets ⟨Nat.le_of_ble_eq_true rfl, Nat.le_of_ble_eq_true rfl, rfl, rfl⟩ (kdk kk_0 (by decide)) (ce_X7 E _ _ _ _ kk_0) (show vwCl[7]? = some (RX7, TX7, 11) from rfl) rfl hl.1 rfl (Nat.le_of_ble_eq_true rfl) dL_law_806 ⟨Nat.le_of_ble_eq_true rfl, Nat.le_of_ble_eq_true rfl⟩ (fun H locs hw => ?_)
  refine lv_aload_n hx hb dL_law_809 rfl (lv_at hl 2 rfl) ?_
  refine lv_aload_n hx hb dL_law_810 rfl (lv_at hl 0 rfl) ?_
  refine lv_iload_n hx hb dL_law_811 rfl (lv_at hl 3 rfl) ?_
  refine lv_iconst (v := 1) hx hb dL_law_812 (by decide) ?_
  refine lv_iadd hx hb dL_law_813 ?_
  refine va_sld hx hb hX hbl hbA hw.2 (hi 1 (by decide) (by decide)) dL_law_814 ?_
  refine LcVi (As := [.int (xs (x3 + 1).toNatClampNeg)]) X hw (ctX8_sets l E b h2) ⟨mw_1007, mw_1008, mw_1009, mw_61, mw_1010⟩ hd_X8_sets ⟨Nat.le_of_ble_eq_true rfl, Nat.le_of_ble_eq_true rfl, rfl, rfl⟩ (kdk kk_197 (by decide)) (ce_X8 E _ _ _ _ kk_197) (show vwCl[8]? = some (RX8, TX8, 31) from rfl) rfl hl.1 rfl (Nat.le_of_ble_eq_true rfl) dL_law_815 ⟨Nat.le_of_ble_eq_true rfl, Nat.le_of_ble_eq_true rfl⟩ (fun H locs hw => ?_)
  refine lv_icmp_eq (tgt := 952) hx hb dL_law_818 (by decide) (fun c1 => ?_) (fun c1 => absurd h3 c1)
  exact hk _ _ _ _ H locs h4 hw
set_option maxHeartbeats 4000000 in
set_option maxRecDepth 100000 in
theorem law_forget {p : Program} {l : Launch} {e : Env} {s : State} {m : MethodId} {below : List Frame} {meth : Method} {c : Code} {E : EE} {b bs L : Nat} {xs : Nat → Int32} {I : Mem → Int64 → Mem → Int64 → Prop} (X : CX E p s m #[Value.ref bs] c code 4 RL) (hX : va_X bs L xs s s.heap) (hbl : bs < s.heap.size) (hbA : ¬ AA b bs) (hS : Sim_forget I) {x3 : Int32} (hi : ∀ j : Int32, 1 ≤ j → j ≤ 4 → vp_in (x3 + j) L) {ls : Array Slot} (hl : lv_has ls 4 [(0, .ref bs), (1, .ref (b + 0)), (2, .ref (b + 197)), (3, .int x3)]) {MC : Mem} {TC : Int64} {MM : Mem} {TM : Int64} {H : Heap} {locs : List Loc} (hI : I MC TC MM TM) (hw : WW E b MC TC MM TM s H locs) (hk : ∀ (MC : Mem) (TC : Int64) (MM : Mem) (TM : Int64) (H : Heap) (locs : List Loc), I MC TC MM TM → WW E b MC TC MM TM s H locs → W p l e room_1 s m #[Value.ref bs] below meth c H locs 600000 7302250 (lw_Z below #[Value.ref bs] s) (F0 m 952 ls [])) : W p l e room_1 s m #[Value.ref bs] below meth c H locs 600000 7302250 (lw_Z below #[Value.ref bs] s) (F0 m 823 ls []) := by
  have hx := X.1
  have hb := X.2.1
  obtain ⟨u, v, h1, h2, h3, h4⟩ := hS MC TC MM TM hI 
  refine lv_aload_n hx hb dL_law_823 rfl (lv_at hl 1 rfl) ?_
  refine LcVi (As := []) X hw (ctX7_forget l E b h1) ⟨mw_653, mw_654, mw_655, mw_52, mw_656⟩ hd_X7_forget ⟨Nat.le_of_ble_eq_true rfl, Nat.le_of_ble_eq_true rfl, rfl, rfl⟩ (kdk kk_0 (by decide)) (ce_X7 E _ _ _ _ kk_0) (show vwCl[7]? = some (RX7, TX7, 11) from rfl) rfl hl.1 rfl (Nat.le_of_ble_eq_true rfl) dL_law_824 ⟨Nat.le_of_ble_eq_true rfl, Nat.le_of_ble_eq_true rfl⟩ (fun H locs hw => ?_)
  refine lv_aload_n hx hb dL_law_827 rfl (lv_at hl 2 rfl) ?_
  refine LcVi (As := []) X hw (ctX8_forget l E b h2) ⟨mw_1015, mw_1016, mw_1017, mw_61, mw_1018⟩ hd_X8_forget ⟨Nat.le_of_ble_eq_true rfl, Nat.le_of_ble_eq_true rfl, rfl, rfl⟩ (kdk kk_197 (by decide)) (ce_X8 E _ _ _ _ kk_197) (show vwCl[8]? = some (RX8, TX8, 31) from rfl) rfl hl.1 rfl (Nat.le_of_ble_eq_true rfl) dL_law_828 ⟨Nat.le_of_ble_eq_true rfl, Nat.le_of_ble_eq_true rfl⟩ (fun H locs hw => ?_)
  refine lv_icmp_eq (tgt := 952) hx hb dL_law_831 (by decide) (fun c1 => ?_) (fun c1 => absurd h3 c1)
  exact hk _ _ _ _ H locs h4 hw
set_option maxHeartbeats 4000000 in
set_option maxRecDepth 100000 in
theorem law_mark {p : Program} {l : Launch} {e : Env} {s : State} {m : MethodId} {below : List Frame} {meth : Method} {c : Code} {E : EE} {b bs L : Nat} {xs : Nat → Int32} {I : Mem → Int64 → Mem → Int64 → Prop} (X : CX E p s m #[Value.ref bs] c code 4 RL) (hX : va_X bs L xs s s.heap) (hbl : bs < s.heap.size) (hbA : ¬ AA b bs) (hS : Sim_mark I) {x3 : Int32} (hi : ∀ j : Int32, 1 ≤ j → j ≤ 4 → vp_in (x3 + j) L) {ls : Array Slot} (hl : lv_has ls 4 [(0, .ref bs), (1, .ref (b + 0)), (2, .ref (b + 197)), (3, .int x3)]) {MC : Mem} {TC : Int64} {MM : Mem} {TM : Int64} {H : Heap} {locs : List Loc} (hI : I MC TC MM TM) (hw : WW E b MC TC MM TM s H locs) (hk : ∀ (MC : Mem) (TC : Int64) (MM : Mem) (TM : Int64) (H : Heap) (locs : List Loc), I MC TC MM TM → WW E b MC TC MM TM s H locs → W p l e room_1 s m #[Value.ref bs] below meth c H locs 600000 7302250 (lw_Z below #[Value.ref bs] s) (F0 m 952 ls [])) : W p l e room_1 s m #[Value.ref bs] below meth c H locs 600000 7302250 (lw_Z below #[Value.ref bs] s) (F0 m 836 ls []) := by
  have hx := X.1
  have hb := X.2.1
  obtain ⟨u, v, h1, h2, h3, h4⟩ := hS MC TC MM TM hI (xs (x3 + 1).toNatClampNeg) (xs (x3 + 2).toNatClampNeg)
  refine lv_aload_n hx hb dL_law_836 rfl (lv_at hl 1 rfl) ?_
  refine lv_aload_n hx hb dL_law_837 rfl (lv_at hl 0 rfl) ?_
  refine lv_iload_n hx hb dL_law_838 rfl (lv_at hl 3 rfl) ?_
  refine lv_iconst (v := 1) hx hb dL_law_839 (by decide) ?_
  refine lv_iadd hx hb dL_law_840 ?_
  refine va_sld hx hb hX hbl hbA hw.2 (hi 1 (by decide) (by decide)) dL_law_841 ?_
  refine lv_aload_n hx hb dL_law_842 rfl (lv_at hl 0 rfl) ?_
  refine lv_iload_n hx hb dL_law_843 rfl (lv_at hl 3 rfl) ?_
  refine lv_iconst (v := 2) hx hb dL_law_844 (by decide) ?_
  refine lv_iadd hx hb dL_law_845 ?_
  refine va_sld hx hb hX hbl hbA hw.2 (hi 2 (by decide) (by decide)) dL_law_846 ?_
  refine LcVi (As := [.int (xs (x3 + 1).toNatClampNeg), .int (xs (x3 + 2).toNatClampNeg)]) X hw (ctX7_mark l E b h1) ⟨mw_657, mw_658, mw_659, mw_52, mw_660⟩ hd_X7_mark ⟨Nat.le_of_ble_eq_true rfl, Nat.le_of_ble_eq_true rfl, rfl, rfl⟩ (kdk kk_0 (by decide)) (ce_X7 E _ _ _ _ kk_0) (show vwCl[7]? = some (RX7, TX7, 11) from rfl) rfl hl.1 rfl (Nat.le_of_ble_eq_true rfl) dL_law_847 ⟨Nat.le_of_ble_eq_true rfl, Nat.le_of_ble_eq_true rfl⟩ (fun H locs hw => ?_)
  refine lv_aload_n hx hb dL_law_850 rfl (lv_at hl 2 rfl) ?_
  refine lv_aload_n hx hb dL_law_851 rfl (lv_at hl 0 rfl) ?_
  refine lv_iload_n hx hb dL_law_852 rfl (lv_at hl 3 rfl) ?_
  refine lv_iconst (v := 1) hx hb dL_law_853 (by decide) ?_
  refine lv_iadd hx hb dL_law_854 ?_
  refine va_sld hx hb hX hbl hbA hw.2 (hi 1 (by decide) (by decide)) dL_law_855 ?_
  refine lv_aload_n hx hb dL_law_856 rfl (lv_at hl 0 rfl) ?_
  refine lv_iload_n hx hb dL_law_857 rfl (lv_at hl 3 rfl) ?_
  refine lv_iconst (v := 2) hx hb dL_law_858 (by decide) ?_
  refine lv_iadd hx hb dL_law_859 ?_
  refine va_sld hx hb hX hbl hbA hw.2 (hi 2 (by decide) (by decide)) dL_law_860 ?_
  refine LcVi (As := [.int (xs (x3 + 1).toNatClampNeg), .int (xs (x3 + 2).toNatClampNeg)]) X hw (ctX8_mark l E b h2) ⟨mw_1019, mw_1020, mw_1021, mw_61, mw_1022⟩ hd_X8_mark ⟨Nat.le_of_ble_eq_true rfl, Nat.le_of_ble_eq_true rfl, rfl, rfl⟩ (kdk kk_197 (by decide)) (ce_X8 E _ _ _ _ kk_197) (show vwCl[8]? = some (RX8, TX8, 31) from rfl) rfl hl.1 rfl (Nat.le_of_ble_eq_true rfl) dL_law_861 ⟨Nat.le_of_ble_eq_true rfl, Nat.le_of_ble_eq_true rfl⟩ (fun H locs hw => ?_)
  refine lv_icmp_eq (tgt := 952) hx hb dL_law_864 (by decide) (fun c1 => ?_) (fun c1 => absurd h3 c1)
  exact hk _ _ _ _ H locs h4 hw
set_option maxHeartbeats 4000000 in
set_option maxRecDepth 100000 in
theorem law_keep {p : Program} {l : Launch} {e : Env} {s : State} {m : MethodId} {below : List Frame} {meth : Method} {c : Code} {E : EE} {b bs L : Nat} {xs : Nat → Int32} {I : Mem → Int64 → Mem → Int64 → Prop} (X : CX E p s m #[Value.ref bs] c code 4 RL) (hX : va_X bs L xs s s.heap) (hbl : bs < s.heap.size) (hbA : ¬ AA b bs) (hS : Sim_keep I) {x3 : Int32} (hi : ∀ j : Int32, 1 ≤ j → j ≤ 4 → vp_in (x3 + j) L) {ls : Array Slot} (hl : lv_has ls 4 [(0, .ref bs), (1, .ref (b + 0)), (2, .ref (b + 197)), (3, .int x3)]) {MC : Mem} {TC : Int64} {MM : Mem} {TM : Int64} {H : Heap} {locs : List Loc} (hI : I MC TC MM TM) (hw : WW E b MC TC MM TM s H locs) (hk : ∀ (MC : Mem) (TC : Int64) (MM : Mem) (TM : Int64) (H : Heap) (locs : List Loc), I MC TC MM TM → WW E b MC TC MM TM s H locs → W p l e room_1 s m #[Value.ref bs] below meth c H locs 600000 7302250 (lw_Z below #[Value.ref bs] s) (F0 m 952 ls [])) : W p l e room_1 s m #[Value.ref bs] below meth c H locs 600000 7302250 (lw_Z below #[Value.ref bs] s) (F0 m 869 ls []) := by
  have hx := X.1
  have hb := X.2.1
  obtain ⟨u, v, h1, h2, h3, h4⟩ := hS MC TC MM TM hI (xs (x3 + 1).toNatClampNeg)
  refine lv_aload_n hx hb dL_law_869 rfl (lv_at hl 1 rfl) ?_
  refine lv_aload_n hx hb dL_law_870 rfl (lv_at hl 0 rfl) ?_
  refine lv_iload_n hx hb dL_law_871 rfl (lv_at hl 3 rfl) ?_
  refine lv_iconst (v := 1) hx hb dL_law_872 (by decide) ?_
  refine lv_iadd hx hb dL_law_873 ?_
  refine va_sld hx hb hX hbl hbA hw.2 (hi 1 (by decide) (by decide)) dL_law_874 ?_
  refine LcVi (As := [.int (xs (x3 + 1).toNatClampNeg)]) X hw (ctX7_keep l E b h1) ⟨mw_695, mw_696, mw_697, mw_52, mw_698⟩ hd_X7_keep ⟨Nat.le_of_ble_eq_true rfl, Nat.le_of_ble_eq_true rfl, rfl, rfl⟩ (kdk kk_0 (by decide)) (ce_X7 E _ _ _ _ kk_0) (show vwCl[7]? = some (RX7, TX7, 11) from rfl) rfl hl.1 rfl (Nat.le_of_ble_eq_true rfl) dL_law_875 ⟨Nat.le_of_ble_eq_true rfl, Nat.le_of_ble_eq_true rfl⟩ (fun H locs hw => ?_)
  refine lv_aload_n hx hb dL_law_878 rfl (lv_at hl 2 rfl) ?_
  refine lv_aload_n hx hb dL_law_879 rfl (lv_at hl 0 rfl) ?_
  refine lv_iload_n hx hb dL_law_880 rfl (lv_at hl 3 rfl) ?_
  refine lv_iconst (v := 1) hx hb dL_law_881 (by decide) ?_
  refine lv_iadd hx hb dL_law_882 ?_
  refine va_sld hx hb hX hbl hbA hw.2 (hi 1 (by decide) (by decide)) dL_law_883 ?_
  refine LcVi (As := [.int (xs (x3 + 1).toNatClampNeg)]) X hw (ctX8_keep l E b h2) ⟨mw_1029, mw_1030, mw_1031, mw_61, mw_1032⟩ hd_X8_keep ⟨Nat.le_of_ble_eq_true rfl, Nat.le_of_ble_eq_true rfl, rfl, rfl⟩ (kdk kk_197 (by decide)) (ce_X8 E _ _ _ _ kk_197) (show vwCl[8]? = some (RX8, TX8, 31) from rfl) rfl hl.1 rfl (Nat.le_of_ble_eq_true rfl) dL_law_884 ⟨Nat.le_of_ble_eq_true rfl, Nat.le_of_ble_eq_true rfl⟩ (fun H locs hw => ?_)
  refine lv_icmp_eq (tgt := 952) hx hb dL_law_887 (by decide) (fun c1 => ?_) (fun c1 => absurd h3 c1)
  exact hk _ _ _ _ H locs h4 hw
set_option maxHeartbeats 4000000 in
set_option maxRecDepth 100000 in
theorem law_back {p : Program} {l : Launch} {e : Env} {s : State} {m : MethodId} {below : List Frame} {meth : Method} {c : Code} {E : EE} {b bs L : Nat} {xs : Nat → Int32} {I : Mem → Int64 → Mem → Int64 → Prop} (X : CX E p s m #[Value.ref bs] c code 4 RL) (hX : va_X bs L xs s s.heap) (hbl : bs < s.heap.size) (hbA : ¬ AA b bs) (hS : Sim_back I) {x3 : Int32} (hi : ∀ j : Int32, 1 ≤ j → j ≤ 4 → vp_in (x3 + j) L) {ls : Array Slot} (hl : lv_has ls 4 [(0, .ref bs), (1, .ref (b + 0)), (2, .ref (b + 197)), (3, .int x3)]) {MC : Mem} {TC : Int64} {MM : Mem} {TM : Int64} {H : Heap} {locs : List Loc} (hI : I MC TC MM TM) (hw : WW E b MC TC MM TM s H locs) (hk : ∀ (MC : Mem) (TC : Int64) (MM : Mem) (TM : Int64) (H : Heap) (locs : List Loc), I MC TC MM TM → WW E b MC TC MM TM s H locs → W p l e room_1 s m #[Value.ref bs] below meth c H locs 600000 7302250 (lw_Z below #[Value.ref bs] s) (F0 m 952 ls [])) : W p l e room_1 s m #[Value.ref bs] below meth c H locs 600000 7302250 (lw_Z below #[Value.ref bs] s) (F0 m 892 ls []) := by
  have hx := X.1
  have hb := X.2.1
  obtain ⟨u, v, h1, h2, h3, h4⟩ := hS MC TC MM TM hI (xs (x3 + 1).toNatClampNeg)
  refine lv_aload_n hx hb dL_law_892 rfl (lv_at hl 1 rfl) ?_
  refine lv_aload_n hx hb dL_law_893 rfl (lv_at hl 0 rfl) ?_
  refine lv_iload_n hx hb dL_law_894 rfl (lv_at hl 3 rfl) ?_
  refine lv_iconst (v := 1) hx hb dL_law_895 (by decide) ?_
  refine lv_iadd hx hb dL_law_896 ?_
  refine va_sld hx hb hX hbl hbA hw.2 (hi 1 (by decide) (by decide)) dL_law_897 ?_
  refine LcVi (As := [.int (xs (x3 + 1).toNatClampNeg)]) X hw (ctX7_back l E b h1) ⟨mw_703, mw_704, mw_705, mw_52, mw_706⟩ hd_X7_back ⟨Nat.le_of_ble_eq_true rfl, Nat.le_of_ble_eq_true rfl, rfl, rfl⟩ (kdk kk_0 (by decide)) (ce_X7 E _ _ _ _ kk_0) (show vwCl[7]? = some (RX7, TX7, 11) from rfl) rfl hl.1 rfl (Nat.le_of_ble_eq_true rfl) dL_law_898 ⟨Nat.le_of_ble_eq_true rfl, Nat.le_of_ble_eq_true rfl⟩ (fun H locs hw => ?_)
  refine lv_aload_n hx hb dL_law_901 rfl (lv_at hl 2 rfl) ?_
  refine lv_aload_n hx hb dL_law_902 rfl (lv_at hl 0 rfl) ?_
  refine lv_iload_n hx hb dL_law_903 rfl (lv_at hl 3 rfl) ?_
  refine lv_iconst (v := 1) hx hb dL_law_904 (by decide) ?_
  refine lv_iadd hx hb dL_law_905 ?_
  refine va_sld hx hb hX hbl hbA hw.2 (hi 1 (by decide) (by decide)) dL_law_906 ?_
  refine LcVi (As := [.int (xs (x3 + 1).toNatClampNeg)]) X hw (ctX8_back l E b h2) ⟨mw_1033, mw_1034, mw_1035, mw_61, mw_1036⟩ hd_X8_back ⟨Nat.le_of_ble_eq_true rfl, Nat.le_of_ble_eq_true rfl, rfl, rfl⟩ (kdk kk_197 (by decide)) (ce_X8 E _ _ _ _ kk_197) (show vwCl[8]? = some (RX8, TX8, 31) from rfl) rfl hl.1 rfl (Nat.le_of_ble_eq_true rfl) dL_law_907 ⟨Nat.le_of_ble_eq_true rfl, Nat.le_of_ble_eq_true rfl⟩ (fun H locs hw => ?_)
  refine lv_icmp_eq (tgt := 952) hx hb dL_law_910 (by decide) (fun c1 => ?_) (fun c1 => absurd h3 c1)
  exact hk _ _ _ _ H locs h4 hw
set_option maxHeartbeats 4000000 in
set_option maxRecDepth 100000 in
theorem law_count {p : Program} {l : Launch} {e : Env} {s : State} {m : MethodId} {below : List Frame} {meth : Method} {c : Code} {E : EE} {b bs L : Nat} {xs : Nat → Int32} {I : Mem → Int64 → Mem → Int64 → Prop} (X : CX E p s m #[Value.ref bs] c code 4 RL) (hX : va_X bs L xs s s.heap) (hbl : bs < s.heap.size) (hbA : ¬ AA b bs) (hS : Sim_count I) {x3 : Int32} (hi : ∀ j : Int32, 1 ≤ j → j ≤ 4 → vp_in (x3 + j) L) {ls : Array Slot} (hl : lv_has ls 4 [(0, .ref bs), (1, .ref (b + 0)), (2, .ref (b + 197)), (3, .int x3)]) {MC : Mem} {TC : Int64} {MM : Mem} {TM : Int64} {H : Heap} {locs : List Loc} (hI : I MC TC MM TM) (hw : WW E b MC TC MM TM s H locs) (hk : ∀ (MC : Mem) (TC : Int64) (MM : Mem) (TM : Int64) (H : Heap) (locs : List Loc), I MC TC MM TM → WW E b MC TC MM TM s H locs → W p l e room_1 s m #[Value.ref bs] below meth c H locs 600000 7302250 (lw_Z below #[Value.ref bs] s) (F0 m 952 ls [])) : W p l e room_1 s m #[Value.ref bs] below meth c H locs 600000 7302250 (lw_Z below #[Value.ref bs] s) (F0 m 915 ls []) := by
  have hx := X.1
  have hb := X.2.1
  obtain ⟨u, v, h1, h2, h3, h4⟩ := hS MC TC MM TM hI (xs (x3 + 1).toNatClampNeg)
  refine lv_aload_n hx hb dL_law_915 rfl (lv_at hl 1 rfl) ?_
  refine lv_aload_n hx hb dL_law_916 rfl (lv_at hl 0 rfl) ?_
  refine lv_iload_n hx hb dL_law_917 rfl (lv_at hl 3 rfl) ?_
  refine lv_iconst (v := 1) hx hb dL_law_918 (by decide) ?_
  refine lv_iadd hx hb dL_law_919 ?_
  refine va_sld hx hb hX hbl hbA hw.2 (hi 1 (by decide) (by decide)) dL_law_920 ?_
  refine LcVi (As := [.int (xs (x3 + 1).toNatClampNeg)]) X hw (ctX7_count l E b h1) ⟨mw_707, mw_708, mw_709, mw_52, mw_710⟩ hd_X7_count ⟨Nat.le_of_ble_eq_true rfl, Nat.le_of_ble_eq_true rfl, rfl, rfl⟩ (kdk kk_0 (by decide)) (ce_X7 E _ _ _ _ kk_0) (show vwCl[7]? = some (RX7, TX7, 11) from rfl) rfl hl.1 rfl (Nat.le_of_ble_eq_true rfl) dL_law_921 ⟨Nat.le_of_ble_eq_true rfl, Nat.le_of_ble_eq_true rfl⟩ (fun H locs hw => ?_)
  refine lv_aload_n hx hb dL_law_924 rfl (lv_at hl 2 rfl) ?_
  refine lv_aload_n hx hb dL_law_925 rfl (lv_at hl 0 rfl) ?_
  refine lv_iload_n hx hb dL_law_926 rfl (lv_at hl 3 rfl) ?_
  refine lv_iconst (v := 1) hx hb dL_law_927 (by decide) ?_
  refine lv_iadd hx hb dL_law_928 ?_
  refine va_sld hx hb hX hbl hbA hw.2 (hi 1 (by decide) (by decide)) dL_law_929 ?_
  refine LcVi (As := [.int (xs (x3 + 1).toNatClampNeg)]) X hw (ctX8_count l E b h2) ⟨mw_1037, mw_1038, mw_1039, mw_61, mw_1040⟩ hd_X8_count ⟨Nat.le_of_ble_eq_true rfl, Nat.le_of_ble_eq_true rfl, rfl, rfl⟩ (kdk kk_197 (by decide)) (ce_X8 E _ _ _ _ kk_197) (show vwCl[8]? = some (RX8, TX8, 31) from rfl) rfl hl.1 rfl (Nat.le_of_ble_eq_true rfl) dL_law_930 ⟨Nat.le_of_ble_eq_true rfl, Nat.le_of_ble_eq_true rfl⟩ (fun H locs hw => ?_)
  refine lv_icmp_eq (tgt := 952) hx hb dL_law_933 (by decide) (fun c1 => ?_) (fun c1 => absurd h3 c1)
  exact hk _ _ _ _ H locs h4 hw
set_option maxHeartbeats 4000000 in
set_option maxRecDepth 100000 in
theorem law_trace {p : Program} {l : Launch} {e : Env} {s : State} {m : MethodId} {below : List Frame} {meth : Method} {c : Code} {E : EE} {b bs L : Nat} {xs : Nat → Int32} {I : Mem → Int64 → Mem → Int64 → Prop} (X : CX E p s m #[Value.ref bs] c code 4 RL) (hX : va_X bs L xs s s.heap) (hbl : bs < s.heap.size) (hbA : ¬ AA b bs) (hS : Sim_trace I) {x3 : Int32} (hi : ∀ j : Int32, 1 ≤ j → j ≤ 4 → vp_in (x3 + j) L) {ls : Array Slot} (hl : lv_has ls 4 [(0, .ref bs), (1, .ref (b + 0)), (2, .ref (b + 197)), (3, .int x3)]) {MC : Mem} {TC : Int64} {MM : Mem} {TM : Int64} {H : Heap} {locs : List Loc} (hI : I MC TC MM TM) (hw : WW E b MC TC MM TM s H locs) (hk : ∀ (MC : Mem) (TC : Int64) (MM : Mem) (TM : Int64) (H : Heap) (locs : List Loc), I MC TC MM TM → WW E b MC TC MM TM s H locs → W p l e room_1 s m #[Value.ref bs] below meth c H locs 600000 7302250 (lw_Z below #[Value.ref bs] s) (F0 m 952 ls [])) : W p l e room_1 s m #[Value.ref bs] below meth c H locs 600000 7302250 (lw_Z below #[Value.ref bs] s) (F0 m 938 ls []) := by
  have hx := X.1
  have hb := X.2.1
  obtain ⟨u, v, h1, h2, h3, h4⟩ := hS MC TC MM TM hI 
  refine lv_aload_n hx hb dL_law_938 rfl (lv_at hl 1 rfl) ?_
  refine LcVl (As := []) X hw (ctX7_trace l E b h1) ⟨mw_711, mw_712, mw_713, mw_52, mw_714⟩ hd_X7_trace ⟨Nat.le_of_ble_eq_true rfl, Nat.le_of_ble_eq_true rfl, rfl, rfl⟩ (kdk kk_0 (by decide)) (ce_X7 E _ _ _ _ kk_0) (show vwCl[7]? = some (RX7, TX7, 11) from rfl) rfl hl.1 rfl (Nat.le_of_ble_eq_true rfl) dL_law_939 ⟨Nat.le_of_ble_eq_true rfl, Nat.le_of_ble_eq_true rfl⟩ (fun H locs hw => ?_)
  refine lv_aload_n hx hb dL_law_942 rfl (lv_at hl 2 rfl) ?_
  refine LcVl (As := []) X hw (ctX8_trace l E b h2) ⟨mw_1041, mw_1042, mw_1043, mw_61, mw_1044⟩ hd_X8_trace ⟨Nat.le_of_ble_eq_true rfl, Nat.le_of_ble_eq_true rfl, rfl, rfl⟩ (kdk kk_197 (by decide)) (ce_X8 E _ _ _ _ kk_197) (show vwCl[8]? = some (RX8, TX8, 31) from rfl) rfl hl.1 rfl (Nat.le_of_ble_eq_true rfl) dL_law_943 ⟨Nat.le_of_ble_eq_true rfl, Nat.le_of_ble_eq_true rfl⟩ (fun H locs hw => ?_)
  refine W.lcmp hx hb dL_law_946 ?_
  refine lv_if_eq (tgt := 952) hx hb dL_law_947 (by decide) (fun c1 => ?_) (fun c1 => absurd (by rw [h3]; simp [lg_cmp]) c1)
  exact hk _ _ _ _ H locs h4 hw
set_option maxHeartbeats 4000000 in
set_option maxRecDepth 100000 in
theorem law_loop {p : Program} {l : Launch} {e : Env} {s : State} {m : MethodId} {below : List Frame} {meth : Method} {c : Code} {E : EE} {b bs L : Nat} {xs : Nat → Int32} {I : Mem → Int64 → Mem → Int64 → Prop} (hL : L ≤ 320) (hr : meth.sig.returnType = ret) (hlk : meth.locks = false) (hbb : b = s.heap.size) (X : CX E p s m #[Value.ref bs] c code 4 RL) (hX : va_X bs L xs s s.heap) (hbl : bs < s.heap.size) (hbA : ¬ AA b bs) (hS : SimAll I) : ∀ (n k : Nat), L < 5 * k + n → ∀ (x3 : Int32), x3 = nI (5 * k) → 5 * k ≤ L + 4 → ∀ (ls : Array Slot), lv_has ls 4 [(0, .ref bs), (1, .ref (b + 0)), (2, .ref (b + 197)), (3, .int x3)] → ∀ (MC : Mem) (TC : Int64) (MM : Mem) (TM : Int64) (H : Heap) (locs : List Loc), I MC TC MM TM → WW E b MC TC MM TM s H locs → W p l e room_1 s m #[Value.ref bs] below meth c H locs 600000 7302250 (lw_Z below #[Value.ref bs] s) (F0 m 18 ls []) := by
  have hx := X.1
  have hb := X.2.1
  intro n
  induction n with
  | zero =>
    intro k h1 x3 ex hk ls hl MC TC MM TM H locs hI hw
    exact law_end hL hr hlk hbb X hX hbl hbA (by omega) ex (by omega) hl hw
  | succ n ih =>
    intro k h1 x3 ex hk ls hl MC TC MM TM H locs hI hw
    by_cases hlt : 5 * k + 5 ≤ L
    · refine lv_iload_n hx hb dL_law_18 rfl (lv_at hl 3 rfl) ?_
      refine lv_aload_n hx hb dL_law_19 rfl (lv_at hl 0 rfl) ?_
      refine va_slen hx hb hX hbl hbA hw.2 dL_law_20 ?_
      refine lv_iconst (v := 5) hx hb dL_law_21 (by decide) ?_
      refine lv_isub hx hb dL_law_22 ?_
      refine lv_icmp_gt (tgt := 958) hx hb dL_law_23 (by decide) (fun c1 => absurd c1 ?_) (fun c1 => ?_)
      · exact law_nlt (by omega) (by omega) ex
      · refine lv_aload_n hx hb dL_law_26 rfl (lv_at hl 0 rfl) ?_
        refine lv_iload_n hx hb dL_law_27 rfl (lv_at hl 3 rfl) ?_
        refine va_sld hx hb hX hbl hbA hw.2 (by rw [ex]; exact vp_in_nI (by omega) (by omega)) dL_law_28 ?_
        refine lv_bipush (v := 31) hx hb dL_law_29 (by decide) ?_
        refine lv_iand hx hb dL_law_31 ?_
        refine lv_topi (fun w ew => ?_)
        have hi : ∀ j : Int32, 1 ≤ j → j ≤ 4 → vp_in (x3 + j) L := law_in (by omega) (by omega) ex
        have hkk : ∀ (MC : Mem) (TC : Int64) (MM : Mem) (TM : Int64) (H : Heap) (locs : List Loc), I MC TC MM TM → WW E b MC TC MM TM s H locs → W p l e room_1 s m #[Value.ref bs] below meth c H locs 600000 7302250 (lw_Z below #[Value.ref bs] s) (F0 m 952 ls []) := by
          intro MC TC MM TM H locs hI hw
          obtain ⟨y3, ey3⟩ : ∃ y : Int32, y = x3 + 5 := ⟨_, rfl⟩
          refine lv_iinc (v := y3) (lv' := [(3, .int y3), (0, .ref bs), (1, .ref (b + 0)), (2, .ref (b + 197))]) hx hb dL_law_952 hl (k := 3) rfl (by rw [ey3]; rfl) (by decide) rfl (fun ls hl => ?_)
          refine lv_goto (tgt := 18) hx hb dL_law_955 (by decide) ?_
          exact ih (k + 1) (by omega) y3 (by rw [ey3, ex]; exact law_step k) (by omega) ls (lv_sub hl [1, 2, 3, 0] rfl) MC TC MM TM H locs hI hw
        by_cases c100 : w = 0
        · refine lv_tableIn (tgt := 164) (off := 132) hx hb dL_law_32 (by rw [c100]; decide) (by rw [c100]; decide) (by rw [c100]; rfl) (by decide) ?_
          exact law_type X hX hbl hbA hS.1 hi hl hI hw hkk
        by_cases c101 : w = 1
        · refine lv_tableIn (tgt := 187) (off := 155) hx hb dL_law_32 (by rw [c101]; decide) (by rw [c101]; decide) (by rw [c101]; rfl) (by decide) ?_
          exact law_clear X hX hbl hbA hS.2.1 hi hl hI hw hkk
        by_cases c102 : w = 2
        · refine lv_tableIn (tgt := 200) (off := 168) hx hb dL_law_32 (by rw [c102]; decide) (by rw [c102]; decide) (by rw [c102]; rfl) (by decide) ?_
          exact law_shop X hX hbl hbA hS.2.2.1 hi hl hI hw hkk
        by_cases c103 : w = 3
        · refine lv_tableIn (tgt := 213) (off := 181) hx hb dL_law_32 (by rw [c103]; decide) (by rw [c103]; decide) (by rw [c103]; rfl) (by decide) ?_
          exact law_one X hX hbl hbA hS.2.2.2.1 hi hl hI hw hkk
        by_cases c104 : w = 4
        · refine lv_tableIn (tgt := 246) (off := 214) hx hb dL_law_32 (by rw [c104]; decide) (by rw [c104]; decide) (by rw [c104]; rfl) (by decide) ?_
          exact law_week X hX hbl hbA hS.2.2.2.2.1 hi hl hI hw hkk
        by_cases c105 : w = 5
        · refine lv_tableIn (tgt := 279) (off := 247) hx hb dL_law_32 (by rw [c105]; decide) (by rw [c105]; decide) (by rw [c105]; rfl) (by decide) ?_
          exact law_layer X hX hbl hbA hS.2.2.2.2.2.1 hi hl hI hw hkk
        by_cases c106 : w = 6
        · refine lv_tableIn (tgt := 312) (off := 280) hx hb dL_law_32 (by rw [c106]; decide) (by rw [c106]; decide) (by rw [c106]; rfl) (by decide) ?_
          exact law_jar X hX hbl hbA hS.2.2.2.2.2.2.1 hi hl hI hw hkk
        by_cases c107 : w = 7
        · refine lv_tableIn (tgt := 345) (off := 313) hx hb dL_law_32 (by rw [c107]; decide) (by rw [c107]; decide) (by rw [c107]; rfl) (by decide) ?_
          exact law_days X hX hbl hbA hS.2.2.2.2.2.2.2.1 hi hl hI hw hkk
        by_cases c108 : w = 8
        · refine lv_tableIn (tgt := 368) (off := 336) hx hb dL_law_32 (by rw [c108]; decide) (by rw [c108]; decide) (by rw [c108]; rfl) (by decide) ?_
          exact law_minds X hX hbl hbA hS.2.2.2.2.2.2.2.2.1 hi hl hI hw hkk
        by_cases c109 : w = 9
        · refine lv_tableIn (tgt := 401) (off := 369) hx hb dL_law_32 (by rw [c109]; decide) (by rw [c109]; decide) (by rw [c109]; rfl) (by decide) ?_
          exact law_cuts X hX hbl hbA hS.2.2.2.2.2.2.2.2.2.1 hi hl hI hw hkk
        by_cases c110 : w = 10
        · refine lv_tableIn (tgt := 434) (off := 402) hx hb dL_law_32 (by rw [c110]; decide) (by rw [c110]; decide) (by rw [c110]; rfl) (by decide) ?_
          exact law_changes X hX hbl hbA hS.2.2.2.2.2.2.2.2.2.2.1 hi hl hI hw hkk
        by_cases c111 : w = 11
        · refine lv_tableIn (tgt := 457) (off := 425) hx hb dL_law_32 (by rw [c111]; decide) (by rw [c111]; decide) (by rw [c111]; rfl) (by decide) ?_
          exact law_empties X hX hbl hbA hS.2.2.2.2.2.2.2.2.2.2.2.1 hi hl hI hw hkk
        by_cases c112 : w = 12
        · refine lv_tableIn (tgt := 480) (off := 448) hx hb dL_law_32 (by rw [c112]; decide) (by rw [c112]; decide) (by rw [c112]; rfl) (by decide) ?_
          exact law_undo X hX hbl hbA hS.2.2.2.2.2.2.2.2.2.2.2.2.1 hi hl hI hw hkk
        by_cases c113 : w = 13
        · refine lv_tableIn (tgt := 493) (off := 461) hx hb dL_law_32 (by rw [c113]; decide) (by rw [c113]; decide) (by rw [c113]; rfl) (by decide) ?_
          exact law_now X hX hbl hbA hS.2.2.2.2.2.2.2.2.2.2.2.2.2.1 hi hl hI hw hkk
        by_cases c114 : w = 14
        · refine lv_tableIn (tgt := 516) (off := 484) hx hb dL_law_32 (by rw [c114]; decide) (by rw [c114]; decide) (by rw [c114]; rfl) (by decide) ?_
          exact law_reads X hX hbl hbA hS.2.2.2.2.2.2.2.2.2.2.2.2.2.2.1 hi hl hI hw hkk
        by_cases c115 : w = 15
        · refine lv_tableIn (tgt := 549) (off := 517) hx hb dL_law_32 (by rw [c115]; decide) (by rw [c115]; decide) (by rw [c115]; rfl) (by decide) ?_
          exact law_plan X hX hbl hbA hS.2.2.2.2.2.2.2.2.2.2.2.2.2.2.2.1 hi hl hI hw hkk
        by_cases c116 : w = 16
        · refine lv_tableIn (tgt := 602) (off := 570) hx hb dL_law_32 (by rw [c116]; decide) (by rw [c116]; decide) (by rw [c116]; rfl) (by decide) ?_
          exact law_least X hX hbl hbA hS.2.2.2.2.2.2.2.2.2.2.2.2.2.2.2.2.1 hi hl hI hw hkk
        by_cases c117 : w = 17
        · refine lv_tableIn (tgt := 645) (off := 613) hx hb dL_law_32 (by rw [c117]; decide) (by rw [c117]; decide) (by rw [c117]; rfl) (by decide) ?_
          exact law_wig X hX hbl hbA hS.2.2.2.2.2.2.2.2.2.2.2.2.2.2.2.2.2.1 hi hl hI hw hkk
        by_cases c118 : w = 18
        · refine lv_tableIn (tgt := 668) (off := 636) hx hb dL_law_32 (by rw [c118]; decide) (by rw [c118]; decide) (by rw [c118]; rfl) (by decide) ?_
          exact law_odds X hX hbl hbA hS.2.2.2.2.2.2.2.2.2.2.2.2.2.2.2.2.2.2.1 hi hl hI hw hkk
        by_cases c119 : w = 19
        · refine lv_tableIn (tgt := 721) (off := 689) hx hb dL_law_32 (by rw [c119]; decide) (by rw [c119]; decide) (by rw [c119]; rfl) (by decide) ?_
          exact law_saw X hX hbl hbA hS.2.2.2.2.2.2.2.2.2.2.2.2.2.2.2.2.2.2.2.1 hi hl hI hw hkk
        by_cases c120 : w = 20
        · refine lv_tableIn (tgt := 744) (off := 712) hx hb dL_law_32 (by rw [c120]; decide) (by rw [c120]; decide) (by rw [c120]; rfl) (by decide) ?_
          exact law_lock X hX hbl hbA hS.2.2.2.2.2.2.2.2.2.2.2.2.2.2.2.2.2.2.2.2.1 hi hl hI hw hkk
        by_cases c121 : w = 21
        · refine lv_tableIn (tgt := 767) (off := 735) hx hb dL_law_32 (by rw [c121]; decide) (by rw [c121]; decide) (by rw [c121]; rfl) (by decide) ?_
          exact law_hears X hX hbl hbA hS.2.2.2.2.2.2.2.2.2.2.2.2.2.2.2.2.2.2.2.2.2.1 hi hl hI hw hkk
        by_cases c122 : w = 22
        · refine lv_tableIn (tgt := 800) (off := 768) hx hb dL_law_32 (by rw [c122]; decide) (by rw [c122]; decide) (by rw [c122]; rfl) (by decide) ?_
          exact law_sets X hX hbl hbA hS.2.2.2.2.2.2.2.2.2.2.2.2.2.2.2.2.2.2.2.2.2.2.1 hi hl hI hw hkk
        by_cases c123 : w = 23
        · refine lv_tableIn (tgt := 823) (off := 791) hx hb dL_law_32 (by rw [c123]; decide) (by rw [c123]; decide) (by rw [c123]; rfl) (by decide) ?_
          exact law_forget X hX hbl hbA hS.2.2.2.2.2.2.2.2.2.2.2.2.2.2.2.2.2.2.2.2.2.2.2.1 hi hl hI hw hkk
        by_cases c124 : w = 24
        · refine lv_tableIn (tgt := 836) (off := 804) hx hb dL_law_32 (by rw [c124]; decide) (by rw [c124]; decide) (by rw [c124]; rfl) (by decide) ?_
          exact law_mark X hX hbl hbA hS.2.2.2.2.2.2.2.2.2.2.2.2.2.2.2.2.2.2.2.2.2.2.2.2.1 hi hl hI hw hkk
        by_cases c125 : w = 25
        · refine lv_tableIn (tgt := 869) (off := 837) hx hb dL_law_32 (by rw [c125]; decide) (by rw [c125]; decide) (by rw [c125]; rfl) (by decide) ?_
          exact law_keep X hX hbl hbA hS.2.2.2.2.2.2.2.2.2.2.2.2.2.2.2.2.2.2.2.2.2.2.2.2.2.1 hi hl hI hw hkk
        by_cases c126 : w = 26
        · refine lv_tableIn (tgt := 892) (off := 860) hx hb dL_law_32 (by rw [c126]; decide) (by rw [c126]; decide) (by rw [c126]; rfl) (by decide) ?_
          exact law_back X hX hbl hbA hS.2.2.2.2.2.2.2.2.2.2.2.2.2.2.2.2.2.2.2.2.2.2.2.2.2.2.1 hi hl hI hw hkk
        by_cases c127 : w = 27
        · refine lv_tableIn (tgt := 915) (off := 883) hx hb dL_law_32 (by rw [c127]; decide) (by rw [c127]; decide) (by rw [c127]; rfl) (by decide) ?_
          exact law_count X hX hbl hbA hS.2.2.2.2.2.2.2.2.2.2.2.2.2.2.2.2.2.2.2.2.2.2.2.2.2.2.2.1 hi hl hI hw hkk
        by_cases c128 : w = 28
        · refine lv_tableIn (tgt := 938) (off := 906) hx hb dL_law_32 (by rw [c128]; decide) (by rw [c128]; decide) (by rw [c128]; rfl) (by decide) ?_
          exact law_trace X hX hbl hbA hS.2.2.2.2.2.2.2.2.2.2.2.2.2.2.2.2.2.2.2.2.2.2.2.2.2.2.2.2 hi hl hI hw hkk
        have n100 : w.toInt ≠ 0 := fun q => c100 (Int32.toInt_inj.mp (q.trans (by decide)))
        have n101 : w.toInt ≠ 1 := fun q => c101 (Int32.toInt_inj.mp (q.trans (by decide)))
        have n102 : w.toInt ≠ 2 := fun q => c102 (Int32.toInt_inj.mp (q.trans (by decide)))
        have n103 : w.toInt ≠ 3 := fun q => c103 (Int32.toInt_inj.mp (q.trans (by decide)))
        have n104 : w.toInt ≠ 4 := fun q => c104 (Int32.toInt_inj.mp (q.trans (by decide)))
        have n105 : w.toInt ≠ 5 := fun q => c105 (Int32.toInt_inj.mp (q.trans (by decide)))
        have n106 : w.toInt ≠ 6 := fun q => c106 (Int32.toInt_inj.mp (q.trans (by decide)))
        have n107 : w.toInt ≠ 7 := fun q => c107 (Int32.toInt_inj.mp (q.trans (by decide)))
        have n108 : w.toInt ≠ 8 := fun q => c108 (Int32.toInt_inj.mp (q.trans (by decide)))
        have n109 : w.toInt ≠ 9 := fun q => c109 (Int32.toInt_inj.mp (q.trans (by decide)))
        have n110 : w.toInt ≠ 10 := fun q => c110 (Int32.toInt_inj.mp (q.trans (by decide)))
        have n111 : w.toInt ≠ 11 := fun q => c111 (Int32.toInt_inj.mp (q.trans (by decide)))
        have n112 : w.toInt ≠ 12 := fun q => c112 (Int32.toInt_inj.mp (q.trans (by decide)))
        have n113 : w.toInt ≠ 13 := fun q => c113 (Int32.toInt_inj.mp (q.trans (by decide)))
        have n114 : w.toInt ≠ 14 := fun q => c114 (Int32.toInt_inj.mp (q.trans (by decide)))
        have n115 : w.toInt ≠ 15 := fun q => c115 (Int32.toInt_inj.mp (q.trans (by decide)))
        have n116 : w.toInt ≠ 16 := fun q => c116 (Int32.toInt_inj.mp (q.trans (by decide)))
        have n117 : w.toInt ≠ 17 := fun q => c117 (Int32.toInt_inj.mp (q.trans (by decide)))
        have n118 : w.toInt ≠ 18 := fun q => c118 (Int32.toInt_inj.mp (q.trans (by decide)))
        have n119 : w.toInt ≠ 19 := fun q => c119 (Int32.toInt_inj.mp (q.trans (by decide)))
        have n120 : w.toInt ≠ 20 := fun q => c120 (Int32.toInt_inj.mp (q.trans (by decide)))
        have n121 : w.toInt ≠ 21 := fun q => c121 (Int32.toInt_inj.mp (q.trans (by decide)))
        have n122 : w.toInt ≠ 22 := fun q => c122 (Int32.toInt_inj.mp (q.trans (by decide)))
        have n123 : w.toInt ≠ 23 := fun q => c123 (Int32.toInt_inj.mp (q.trans (by decide)))
        have n124 : w.toInt ≠ 24 := fun q => c124 (Int32.toInt_inj.mp (q.trans (by decide)))
        have n125 : w.toInt ≠ 25 := fun q => c125 (Int32.toInt_inj.mp (q.trans (by decide)))
        have n126 : w.toInt ≠ 26 := fun q => c126 (Int32.toInt_inj.mp (q.trans (by decide)))
        have n127 : w.toInt ≠ 27 := fun q => c127 (Int32.toInt_inj.mp (q.trans (by decide)))
        have n128 : w.toInt ≠ 28 := fun q => c128 (Int32.toInt_inj.mp (q.trans (by decide)))
        refine lv_tableOut (tgt := 952) hx hb dL_law_32 (by omega) (by decide) ?_
        exact hkk _ _ _ _ H locs hI hw
    · exact law_end hL hr hlk hbb X hX hbl hbA (by omega) ex (by omega) hl hw
