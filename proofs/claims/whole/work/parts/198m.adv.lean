abbrev FrC (M M' : Mem) : Prop := (∀ i, (i < 2 ∨ 5 < i) → M' 1 i = M 1 i) ∧ ∀ a, a ≠ 1 → M' a = M a
abbrev FrM (M M' : Mem) : Prop := (∀ i, (i < 15 ∨ 18 < i) → M' 197 i = M 197 i) ∧ ∀ a, a ≠ 197 → M' a = M a
def TR (x : Nat × (Nat → Nat)) (MC MM : Mem) (st kind val nx : Nat) : Prop := MC 1 3 = nI st ∧ MC 1 4 = nI kind ∧ MM 197 16 = nI st ∧ st ≤ x.1 ∧ kind ≤ 4 ∧ (kind = 1 ∨ kind = 2 ∨ kind = 3 → st < nx ∧ nx ≤ x.1 ∧ MC 1 2 = nI nx ∧ MM 197 15 = nI nx) ∧ (kind = 1 ∨ kind = 2 → MC 1 5 = nI val ∧ MM 197 18 = nI val ∧ val < 256) ∧ (kind ≠ 4 → MM 197 17 = nI kind) ∧ (kind = 4 → MM 197 17 = nI 4 ∨ (MM 197 17 = nI 1 ∧ MM 197 18 = nI 0))
theorem both_tok {x : Nat × (Nat → Nat)} (hW : WfX x) {MC MM : Mem} (hC : TxC MC x) (hM : TxM MM x) {st : Nat} (hst : st ≤ x.1) (h32 : MC 1 2 = nI st) (h15 : MM 197 15 = nI st) (hnb : st < x.1 → x.2 st ≠ 32) (fu : Nat) : ∃ MC' MM' kind val nx, gX2_advance_44 MC = some MC' ∧ gX8_next_0 (fu + 1) MM = some MM' ∧ TR x MC' MM' st kind val nx ∧ FrC MC MC' ∧ FrM MM MM' := by
  have hN := hW.1
  have c2 : us MC 1 3 (nI st) 1 2 = nI st := by rw [us_app, if_neg (by decide)]; exact h32
  have c3 : us MC 1 3 (nI st) 1 3 = nI st := by rw [us_app, if_pos ⟨rfl, rfl⟩]
  have c1 : us MC 1 3 (nI st) 2 1 = nI x.1 := by rw [us_ne _ _ _ (by decide)]; exact hC.1
  have cT : TxC (us MC 1 3 (nI st)) x := hC.cg (us_ne _ _ _ (by decide)) (us_ne _ _ _ (by decide))
  have cF : FrC MC (us MC 1 3 (nI st)) := ⟨fun i hi => by rw [us_app, if_neg (fun z => by omega)], fun a ha => us_ne _ _ _ ha⟩
  have d15 : us MM 197 16 (nI st) 197 15 = nI st := by rw [us_app, if_neg (by decide)]; exact h15
  have dT1 : TxM (us MM 197 16 (nI st)) x := hM.cg (by rw [us_app, if_neg (by decide)]) (us_ne _ _ _ (by decide))
  have e15 : us (us MM 197 16 (nI st)) 197 18 0 197 15 = nI st := by rw [us_app, if_neg (by decide)]; exact d15
  have e16 : us (us MM 197 16 (nI st)) 197 18 0 197 16 = nI st := by rw [us_app, if_neg (by decide), us_app, if_pos ⟨rfl, rfl⟩]
  have e18 : us (us MM 197 16 (nI st)) 197 18 0 197 18 = nI 0 := by rw [us_app, if_pos ⟨rfl, rfl⟩]; rfl
  have eT : TxM (us (us MM 197 16 (nI st)) 197 18 0) x := dT1.cg (by rw [us_app, if_neg (by decide)]) (us_ne _ _ _ (by decide))
  have eF : FrM MM (us (us MM 197 16 (nI st)) 197 18 0) := ⟨fun i hi => by rw [us_app, if_neg (fun z => by omega), us_app, if_neg (fun z => by omega)], fun a ha => by rw [us_ne _ _ _ ha, us_ne _ _ _ ha]⟩
  generalize hC0 : us MC 1 3 (nI st) = C0 at c2 c3 c1 cT cF
  generalize hM0 : us (us MM 197 16 (nI st)) 197 18 0 = M0 at e15 e16 e18 eT eF
  by_cases hN0 : st < x.1
  · have hb := hW.2 st hN0
    have hbl := hnb hN0
    have r0 : gX8_next_0 (fu + 1) MM = ((gX8_isFigure (nI (x.2 st))).bind fun u20 => if u20 = 0 then ((gX8_isLetter (nI (x.2 st))).bind fun u23 => if u23 = 0 then (if nI (x.2 st) = 59 then (gX8_next_249 3 M0) else (gX8_next_249 4 M0)) else (gX8_next_180 FU (nI (x.2 st)) M0)) else (gX8_next_67 FU (nI (x.2 st)) M0)) := by
      rw [gX8_next_0, h15, m_let hM hW (by omega), obs, if_pos hN0, if_neg (show ¬ nI (x.2 st) = 32 from fun z => hbl (nI_inj (b := 32) (by omega) (by omega) z)), obs, d15, m_let dT1 hW (by omega), obs, if_pos hN0, obs, if_pos (nI_pos' (by omega)), hM0]
    have l0 : ldA 120 (C0 3) (C0 1 2) = some (nI (x.2 st)) := by rw [c2, ldA_n _ (by omega) (by decide), cT.2 st hN0]
    have q0 : gX2_advance_44 MC = if nI (x.2 st) = 59 then some (us (us C0 1 2 (nI (st + 1))) 1 4 3) else ((gX2_isSmallLetter (nI (x.2 st))).bind fun u96 => if u96 = 0 then ((gX2_isDigit (nI (x.2 st))).bind fun u101 => if u101 = 0 then ((some (us C0 1 4 4)).bind fun M104 => some (M104)) else ((gX2_scanNumber C0).bind fun u105 => some (u105))) else ((gX2_scanLetters C0).bind fun u107 => some (u107))) := by
      rw [gX2_advance_44, h32, hC0, obs, l0, c2, c1, if_pos (nI_lt hN0 (by omega))]
      simp only [obs, nI_1]
    by_cases h59 : x.2 st = 59
    · -- a stop
      refine ⟨us (us C0 1 2 (nI (st + 1))) 1 4 3, us (us M0 197 17 3) 197 15 (nI (st + 1)), 3, 0, st + 1, ?_, ?_, ⟨?_, ?_, ?_, by omega, by omega, fun _ => ⟨by omega, by omega, ?_, ?_⟩, fun z => by omega, fun _ => ?_, fun z => by omega⟩, ⟨fun i hi => ?_, fun a ha => ?_⟩, ⟨fun i hi => ?_, fun a ha => ?_⟩⟩
      · rw [q0, if_pos (show nI (x.2 st) = 59 from congrArg nI h59)]
      · rw [r0, m_dg hb, obs, if_neg (show ¬ dgP (x.2 st) from fun z => by have := z.1; have := z.2; omega), if_pos (show (0 : Int32) = 0 from rfl), m_lt hb, obs, if_neg (show ¬ ltP (x.2 st) from fun z => by have := z.1; have := z.2; omega), if_pos (show (0 : Int32) = 0 from rfl), if_pos (show nI (x.2 st) = 59 from congrArg nI h59), gX8_next_249, obs, show us M0 197 17 3 197 15 = nI st by rw [us_app, if_neg (by decide)]; exact e15, nI_1, obs]
      · rw [us_app, if_neg (by decide), us_app, if_neg (by decide)]; exact c3
      · rw [us_app, if_pos ⟨rfl, rfl⟩]; rfl
      · rw [us_app, if_neg (by decide), us_app, if_neg (by decide)]; exact e16
      · rw [us_app, if_neg (by decide), us_app, if_pos ⟨rfl, rfl⟩]
      · rw [us_app, if_pos ⟨rfl, rfl⟩]
      · rw [us_app, if_neg (by decide), us_app, if_pos ⟨rfl, rfl⟩]; rfl
      · rw [us_app, if_neg (fun z => by omega), us_app, if_neg (fun z => by omega)]; exact cF.1 i hi
      · rw [us_ne _ _ _ ha, us_ne _ _ _ ha]; exact cF.2 a ha
      · rw [us_app, if_neg (fun z => by omega), us_app, if_neg (fun z => by omega)]; exact eF.1 i hi
      · rw [us_ne _ _ _ ha, us_ne _ _ _ ha]; exact eF.2 a ha
    · rw [if_neg (show ¬ nI (x.2 st) = 59 from fun z => h59 (nI_inj (b := 59) (by omega) (by omega) z)), c_lt hb, obs, c_dg hb] at q0
      rw [if_neg (show ¬ nI (x.2 st) = 59 from fun z => h59 (nI_inj (b := 59) (by omega) (by omega) z)), m_dg hb, obs, m_lt hb] at r0
      by_cases hl : ltP (x.2 st)
      · -- letters
        rw [if_pos hl, if_neg (show ¬ (1 : Int32) = 0 by decide)] at q0
        rw [if_neg (show ¬ dgP (x.2 st) from fun z => by have := z.1; have := z.2; have := hl.1; have := hl.2; omega), if_pos (show (0 : Int32) = 0 from rfl), if_pos hl, obs, if_neg (show ¬ (1 : Int32) = 0 by decide)] at r0
        obtain ⟨C1, u1, u2, u3, u4, u5⟩ := c_sl (st := st) hW 120 FU st (by omega) (by unfold FU; omega) hst (Nat.le_refl _) (us C0 1 5 (nI (x.2 st))) (cT.cg (us_ne _ _ _ (by decide)) (us_ne _ _ _ (by decide))) (by rw [us_app, if_neg (by decide)]; exact c2) (by rw [us_app, if_neg (by decide)]; exact c3)
        obtain ⟨M1, v1, v2, v3, v4, v5, v6⟩ := m_sl (st := st) (b := x.2 st) hW 120 FU st (by omega) (by unfold FU; omega) hst (Nat.le_refl _) M0 eT e15 e16
        have hr : st < run x 120 st ∧ run x 120 st ≤ x.1 := by
          have h2 := run_s (x := x) 119 (st + 1) (by omega)
          rw [show run x 120 st = run x 119 (st + 1) by rw [run, if_pos ⟨hN0, hl⟩]]
          omega
        have qC : gX2_advance_44 MC = some C1 := by
          rw [q0, gX2_scanLetters, c3, ldA_n _ (by omega) (by decide), cT.2 st hN0, obs, obs, u1, obs]
        have FC : FrC MC C1 := ⟨fun i hi => by rw [u4 i (by omega) (by omega), us_app, if_neg (fun z => by omega)]; exact cF.1 i hi, fun a ha => by rw [u5 a ha, us_ne _ _ _ ha]; exact cF.2 a ha⟩
        have FM : FrM MM M1 := ⟨fun i hi => by rw [v5 i (by omega) (by omega) (by omega)]; exact eF.1 i hi, fun a ha => by rw [v6 a ha]; exact eF.2 a ha⟩
        have g33 : C1 1 3 = nI st := by rw [u4 3 (by decide) (by decide), us_app, if_neg (by decide)]; exact c3
        have g35 : C1 1 5 = nI (x.2 st) := by rw [u4 5 (by decide) (by decide), us_app, if_pos ⟨rfl, rfl⟩]
        have g16 : M1 197 16 = nI st := by rw [v5 16 (by decide) (by decide) (by decide)]; exact e16
        by_cases h1 : run x 120 st - st = 1
        · rw [if_pos h1] at u3 v4
          exact ⟨C1, M1, 1, x.2 st, run x 120 st, qC, r0.trans v1, ⟨g33, u3, g16, hst, by omega, fun _ => ⟨hr.1, hr.2, u2, v2⟩, fun _ => ⟨g35, v4, hb⟩, fun _ => v3, fun z => by omega⟩, FC, FM⟩
        · rw [if_neg h1] at u3 v4
          exact ⟨C1, M1, 4, 0, 0, qC, r0.trans v1, ⟨g33, u3, g16, hst, by omega, fun z => by omega, fun z => by omega, fun z => by omega, fun _ => Or.inr ⟨v3, v4⟩⟩, FC, FM⟩
      · rw [if_neg hl, if_pos (show (0 : Int32) = 0 from rfl), obs] at q0
        rw [if_neg hl, obs, if_pos (show (0 : Int32) = 0 from rfl)] at r0
        by_cases hd : dgP (x.2 st)
        · -- a number
          rw [if_pos hd, if_neg (show ¬ (1 : Int32) = 0 by decide)] at q0
          rw [if_pos hd, if_neg (show ¬ (1 : Int32) = 0 by decide)] at r0
          obtain ⟨C1, u1, u2, u3, u4, u5, u6⟩ := c_sn (st := st) hW hN0 120 FU st 0 (by omega) (by unfold FU; omega) hst (Nat.le_refl _) (by omega) (us C0 1 5 0) (cT.cg (us_ne _ _ _ (by decide)) (us_ne _ _ _ (by decide))) (by rw [us_app, if_neg (by decide)]; exact c2) (by rw [us_app, if_neg (by decide)]; exact c3) (by rw [us_app, if_pos ⟨rfl, rfl⟩]; rfl)
          obtain ⟨M1, v1, v2, v3, v4, v5, v6⟩ := m_sn (st := st) hW hN0 120 FU st 0 (by omega) (by unfold FU; omega) hst (Nat.le_refl _) (by omega) M0 eT e15 e16 e18
          have hr : st < (nmr x 120 st 0).1 ∧ (nmr x 120 st 0).1 ≤ x.1 := by
            have h2 := nmr_s (x := x) 119 (st + 1) (if 0 ≤ 99 then 10 * 0 + x.2 st - 48 else 0) (by omega) (by rw [if_pos (by omega)]; omega)
            rw [show nmr x 120 st 0 = nmr x 119 (st + 1) (if 0 ≤ 99 then 10 * 0 + x.2 st - 48 else 0) by rw [nmr, if_pos ⟨hN0, hd⟩]]
            omega
          have qC : gX2_advance_44 MC = some C1 := by rw [q0, gX2_scanNumber, obs, u1, obs]
          have FC : FrC MC C1 := ⟨fun i hi => by rw [u5 i (by omega) (by omega) (by omega), us_app, if_neg (fun z => by omega)]; exact cF.1 i hi, fun a ha => by rw [u6 a ha, us_ne _ _ _ ha]; exact cF.2 a ha⟩
          have FM : FrM MM M1 := ⟨fun i hi => by rw [v5 i (by omega) (by omega) (by omega)]; exact eF.1 i hi, fun a ha => by rw [v6 a ha]; exact eF.2 a ha⟩
          have g33 : C1 1 3 = nI st := by rw [u5 3 (by decide) (by decide) (by decide), us_app, if_neg (by decide)]; exact c3
          have g16 : M1 197 16 = nI st := by rw [v5 16 (by decide) (by decide) (by decide)]; exact e16
          by_cases h1 : nmK x st (nmr x 120 st 0)
          · rw [if_pos h1] at u4 v4
            have h9 := h1.1
            exact ⟨C1, M1, 2, (nmr x 120 st 0).2, (nmr x 120 st 0).1, qC, r0.trans v1, ⟨g33, u4, g16, hst, by omega, fun _ => ⟨hr.1, hr.2, u2, v2⟩, fun _ => ⟨by rw [u3]; congr 1; omega, v3, by omega⟩, fun _ => v4, fun z => by omega⟩, FC, FM⟩
          · rw [if_neg h1] at u4 v4
            exact ⟨C1, M1, 4, 0, 0, qC, r0.trans v1, ⟨g33, u4, g16, hst, by omega, fun z => by omega, fun z => by omega, fun z => by omega, fun _ => Or.inl v4⟩, FC, FM⟩
        · -- something else
          rw [if_neg hd, if_pos (show (0 : Int32) = 0 from rfl)] at q0
          rw [if_neg hd, if_pos (show (0 : Int32) = 0 from rfl)] at r0
          refine ⟨us C0 1 4 4, us (us M0 197 17 4) 197 15 (nI (st + 1)), 4, 0, 0, ?_, ?_, ⟨?_, ?_, ?_, hst, by omega, fun z => by omega, fun z => by omega, fun z => by omega, fun _ => Or.inl ?_⟩, ⟨fun i hi => ?_, fun a ha => ?_⟩, ⟨fun i hi => ?_, fun a ha => ?_⟩⟩
          · rw [q0, obs]
          · rw [r0, gX8_next_249, obs, show us M0 197 17 4 197 15 = nI st by rw [us_app, if_neg (by decide)]; exact e15, nI_1, obs]
          · rw [us_app, if_neg (by decide)]; exact c3
          · rw [us_app, if_pos ⟨rfl, rfl⟩]; rfl
          · rw [us_app, if_neg (by decide), us_app, if_neg (by decide)]; exact e16
          · rw [us_app, if_neg (by decide), us_app, if_pos ⟨rfl, rfl⟩]; rfl
          · rw [us_app, if_neg (fun z => by omega)]; exact cF.1 i hi
          · rw [us_ne _ _ _ ha]; exact cF.2 a ha
          · rw [us_app, if_neg (fun z => by omega), us_app, if_neg (fun z => by omega)]; exact eF.1 i hi
          · rw [us_ne _ _ _ ha, us_ne _ _ _ ha]; exact eF.2 a ha
  · -- the end
    refine ⟨us C0 1 4 0, us M0 197 17 0, 0, 0, 0, ?_, ?_, ⟨?_, ?_, ?_, hst, by omega, fun z => by omega, fun z => by omega, fun _ => ?_, fun z => by omega⟩, ⟨fun i hi => ?_, fun a ha => ?_⟩, ⟨fun i hi => ?_, fun a ha => ?_⟩⟩
    · rw [gX2_advance_44, h32, hC0, obs, c2, c1, if_neg (nI_nlt (by omega) (by omega)), obs]
    · rw [gX8_next_0, h15, m_let hM hW (by omega), obs, if_neg hN0, if_neg (by decide), obs, d15, m_let dT1 hW (by omega), obs, if_neg hN0, obs, if_neg (by decide), hM0, obs]
    · rw [us_app, if_neg (by decide)]; exact c3
    · rw [us_app, if_pos ⟨rfl, rfl⟩]; rfl
    · rw [us_app, if_neg (by decide)]; exact e16
    · rw [us_app, if_pos ⟨rfl, rfl⟩]; rfl
    · rw [us_app, if_neg (fun z => by omega)]; exact cF.1 i hi
    · rw [us_ne _ _ _ ha]; exact cF.2 a ha
    · rw [us_app, if_neg (fun z => by omega)]; exact eF.1 i hi
    · rw [us_ne _ _ _ ha]; exact eF.2 a ha
theorem both_adv_l {x : Nat × (Nat → Nat)} (hW : WfX x) : ∀ k c fu1 fu2 (MC MM : Mem), x.1 - c = k → c ≤ x.1 → k < fu1 → k < fu2 → TxC MC x → TxM MM x → MC 1 2 = nI c → MM 197 15 = nI c → ∃ MC' MM' st kind val nx, gX2_advance_0 fu1 MC = some MC' ∧ gX8_next_0 fu2 MM = some MM' ∧ TR x MC' MM' st kind val nx ∧ c ≤ st ∧ FrC MC MC' ∧ FrM MM MM' := by
  have hN := hW.1
  intro k
  induction k with
  | zero =>
    intro c fu1 fu2 MC MM h1 h2 hf1 hf2 hC hM h32 h15
    obtain ⟨fu1, rfl⟩ : ∃ z, fu1 = z + 1 := ⟨fu1 - 1, by omega⟩
    obtain ⟨fu2, rfl⟩ : ∃ z, fu2 = z + 1 := ⟨fu2 - 1, by omega⟩
    obtain ⟨MC', MM', kind, val, nx, e1, e2, e3, e4, e5⟩ := both_tok hW hC hM h2 h32 h15 (fun z => absurd z (by omega)) fu2
    exact ⟨MC', MM', c, kind, val, nx, by rw [gX2_advance_0, hC.1, h32, if_pos (nI_le (by omega) (by omega))]; exact e1, e2, e3, Nat.le_refl _, e4, e5⟩
  | succ k ih =>
    intro c fu1 fu2 MC MM h1 h2 hf1 hf2 hC hM h32 h15
    obtain ⟨fu1, rfl⟩ : ∃ z, fu1 = z + 1 := ⟨fu1 - 1, by omega⟩
    obtain ⟨fu2, rfl⟩ : ∃ z, fu2 = z + 1 := ⟨fu2 - 1, by omega⟩
    have hb := hW.2 c (by omega)
    by_cases hq : x.2 c = 32
    · obtain ⟨MC', MM', st, kind, val, nx, e1, e2, e3, e4, e5, e6⟩ := ih (c + 1) fu1 fu2 (us MC 1 2 (nI (c + 1))) (us MM 197 15 (nI (c + 1))) (by omega) (by omega) (by omega) (by omega) (hC.cg (us_ne _ _ _ (by decide)) (us_ne _ _ _ (by decide))) (hM.cg (by rw [us_app, if_neg (by decide)]) (us_ne _ _ _ (by decide))) (by rw [us_app, if_pos ⟨rfl, rfl⟩]) (by rw [us_app, if_pos ⟨rfl, rfl⟩])
      refine ⟨MC', MM', st, kind, val, nx, ?_, ?_, e3, by omega, ⟨fun i hi => by rw [e5.1 i hi, us_app, if_neg (fun z => by omega)], fun a ha => by rw [e5.2 a ha, us_ne _ _ _ ha]⟩, ⟨fun i hi => by rw [e6.1 i hi, us_app, if_neg (fun z => by omega)], fun a ha => by rw [e6.2 a ha, us_ne _ _ _ ha]⟩⟩
      · rw [gX2_advance_0, hC.1, h32, if_neg (nI_ge (by omega) (by omega)), ldA_n _ (by omega) (by decide), hC.2 c (by omega), obs, if_pos (show nI (x.2 c) = 32 from congrArg nI hq), nI_1, obs]
        exact e1
      · rw [gX8_next_0, h15, m_let hM hW (by omega), obs, if_pos (show c < x.1 by omega), if_pos (show nI (x.2 c) = 32 from congrArg nI hq), nI_1, obs]
        exact e2
    · obtain ⟨MC', MM', kind, val, nx, e1, e2, e3, e4, e5⟩ := both_tok hW hC hM h2 h32 h15 (fun _ => hq) fu2
      refine ⟨MC', MM', c, kind, val, nx, ?_, e2, e3, Nat.le_refl _, e4, e5⟩
      rw [gX2_advance_0, hC.1, h32, if_neg (nI_ge (by omega) (by omega)), ldA_n _ (by omega) (by decide), hC.2 c (by omega), obs, if_neg (show ¬ nI (x.2 c) = 32 from fun z => hq (nI_inj (b := 32) (by omega) (by omega) z))]
      exact e1
theorem both_adv {x : Nat × (Nat → Nat)} (hW : WfX x) {c : Nat} {MC MM : Mem} (hc : c ≤ x.1) (hC : TxC MC x) (hM : TxM MM x) (h32 : MC 1 2 = nI c) (h15 : MM 197 15 = nI c) : ∃ MC' MM' st kind val nx, gX2_advance MC = some MC' ∧ gX8_next MM = some MM' ∧ TR x MC' MM' st kind val nx ∧ c ≤ st ∧ FrC MC MC' ∧ FrM MM MM' := by
  have hN := hW.1
  exact both_adv_l hW (x.1 - c) c FU FU MC MM rfl hc (by unfold FU; omega) (by unfold FU; omega) hC hM h32 h15
