abbrev dgP (b : Nat) : Prop := 48 ≤ b ∧ b ≤ 57
abbrev ltP (b : Nat) : Prop := 97 ≤ b ∧ b ≤ 122
theorem c_dg {b : Nat} (h : b < 256) : gX2_isDigit (nI b) = some (if dgP b then 1 else 0) := (show ∀ b, b < 256 → gX2_isDigit (nI b) = some (if dgP b then 1 else 0) by decide +kernel) b h
theorem c_lt {b : Nat} (h : b < 256) : gX2_isSmallLetter (nI b) = some (if ltP b then 1 else 0) := (show ∀ b, b < 256 → gX2_isSmallLetter (nI b) = some (if ltP b then 1 else 0) by decide +kernel) b h
theorem m_dg {b : Nat} (h : b < 256) : gX8_isFigure (nI b) = some (if dgP b then 1 else 0) := (show ∀ b, b < 256 → gX8_isFigure (nI b) = some (if dgP b then 1 else 0) by decide +kernel) b h
theorem m_lt {b : Nat} (h : b < 256) : gX8_isLetter (nI b) = some (if ltP b then 1 else 0) := (show ∀ b, b < 256 → gX8_isLetter (nI b) = some (if ltP b then 1 else 0) by decide +kernel) b h
theorem m_dg1 : gX8_isFigure (-1) = some 0 := by decide +kernel
theorem m_lt1 : gX8_isLetter (-1) = some 0 := by decide +kernel
abbrev WfX (x : Nat × (Nat → Nat)) : Prop := x.1 ≤ 120 ∧ ∀ i, i < x.1 → x.2 i < 256
theorem m_let {M : Mem} {x : Nat × (Nat → Nat)} (hx : TxM M x) (hW : WfX x) {i : Nat} (hi : i < 1000) : gX8_letterAt (nI i) M = some (if i < x.1 then nI (x.2 i) else -1) := by
  have := hW.1
  rw [gX8_letterAt, hx.1]
  by_cases h : i < x.1
  · rw [if_neg (nI_ge h (by omega)), ldA_n _ (by omega) (by decide), hx.2 i h, obs, gX8_letterAt_18, if_pos h]
  · rw [if_pos (nI_le (by omega) (by omega)), gX8_letterAt_18, if_neg h]
def run (x : Nat × (Nat → Nat)) : Nat → Nat → Nat
  | 0, c => c
  | k + 1, c => if c < x.1 ∧ ltP (x.2 c) then run x k (c + 1) else c
theorem run_s {x : Nat × (Nat → Nat)} : ∀ k c, c ≤ x.1 → c ≤ run x k c ∧ run x k c ≤ x.1
  | 0, c, h => ⟨Nat.le_refl _, h⟩
  | k + 1, c, h => by
    rw [run]
    by_cases q : c < x.1 ∧ ltP (x.2 c)
    · rw [if_pos q]
      have := run_s (x := x) k (c + 1) (by omega)
      omega
    · rw [if_neg q]; omega
def nmr (x : Nat × (Nat → Nat)) : Nat → Nat → Nat → Nat × Nat
  | 0, c, v => (c, v)
  | k + 1, c, v => if c < x.1 ∧ dgP (x.2 c) then nmr x k (c + 1) (if v ≤ 99 then 10 * v + x.2 c - 48 else v) else (c, v)
theorem nmr_s {x : Nat × (Nat → Nat)} : ∀ k c v, c ≤ x.1 → v ≤ 999 → c ≤ (nmr x k c v).1 ∧ (nmr x k c v).1 ≤ x.1 ∧ (nmr x k c v).2 ≤ 999
  | 0, c, v, h, hv => ⟨Nat.le_refl _, h, hv⟩
  | k + 1, c, v, h, hv => by
    rw [nmr]
    by_cases q : c < x.1 ∧ dgP (x.2 c)
    · rw [if_pos q]
      have := nmr_s (x := x) k (c + 1) (if v ≤ 99 then 10 * v + x.2 c - 48 else v) (by omega) (by split <;> omega)
      omega
    · rw [if_neg q]; exact ⟨Nat.le_refl _, h, hv⟩
-- letters
theorem c_sl {x : Nat × (Nat → Nat)} {st : Nat} (hW : WfX x) : ∀ k fu c, x.1 - c ≤ k → k < fu → c ≤ x.1 → st ≤ c → ∀ (M : Mem), TxC M x → M 1 2 = nI c → M 1 3 = nI st → ∃ M', gX2_scanLetters_16 fu M = some M' ∧ M' 1 2 = nI (run x k c) ∧ M' 1 4 = nI (if run x k c - st = 1 then 1 else 4) ∧ (∀ i, i ≠ 2 → i ≠ 4 → M' 1 i = M 1 i) ∧ ∀ a, a ≠ 1 → M' a = M a := by
  have hN := hW.1
  have fin : ∀ c, c ≤ x.1 → st ≤ c → ∀ (M : Mem), M 1 2 = nI c → M 1 3 = nI st → ∃ M', gX2_scanLetters_61 M = some M' ∧ M' 1 2 = nI c ∧ M' 1 4 = nI (if c - st = 1 then 1 else 4) ∧ (∀ i, i ≠ 2 → i ≠ 4 → M' 1 i = M 1 i) ∧ ∀ a, a ≠ 1 → M' a = M a := by
    intro c h1 h2 M h32 h33
    rw [gX2_scanLetters_61, h32, h33, pk_sub h2]
    by_cases q : c - st = 1
    · refine ⟨us M 1 4 1, by rw [if_pos (show nI (c - st) = 1 from congrArg nI q), gX2_scanLetters_80, obs], by rw [us_app, if_neg (by decide)]; exact h32, by rw [us_app, if_pos ⟨rfl, rfl⟩, if_pos q]; rfl, fun i _ z => by rw [us_app, if_neg (fun y => z y.2)], fun a z => us_ne _ _ _ z⟩
    · refine ⟨us M 1 4 4, by rw [if_neg (show ¬ nI (c - st) = 1 from fun z => q (nI_inj (b := 1) (by omega) (by omega) z)), gX2_scanLetters_80, obs], by rw [us_app, if_neg (by decide)]; exact h32, by rw [us_app, if_pos ⟨rfl, rfl⟩, if_neg q]; rfl, fun i _ z => by rw [us_app, if_neg (fun y => z y.2)], fun a z => us_ne _ _ _ z⟩
  intro k
  induction k with
  | zero =>
    intro fu c h1 h2 h3 h4 M hT h32 h33
    obtain ⟨fu, rfl⟩ : ∃ z, fu = z + 1 := ⟨fu - 1, by omega⟩
    rw [gX2_scanLetters_16, hT.1, h32, if_pos (nI_le (by omega) (by omega))]
    exact fin c h3 h4 M h32 h33
  | succ k ih =>
    intro fu c h1 h2 h3 h4 M hT h32 h33
    obtain ⟨fu, rfl⟩ : ∃ z, fu = z + 1 := ⟨fu - 1, by omega⟩
    rw [gX2_scanLetters_16, hT.1, h32]
    by_cases hc : c < x.1
    · rw [if_neg (nI_ge hc (by omega)), ldA_n _ (by omega) (by decide), hT.2 c hc, obs, c_lt (hW.2 c hc), obs]
      by_cases hq : ltP (x.2 c)
      · rw [show run x (k + 1) c = run x k (c + 1) by rw [run, if_pos ⟨hc, hq⟩], if_pos hq, if_neg (show ¬ (1 : Int32) = 0 by decide), nI_1, obs]
        obtain ⟨M', e1, e2, e3, e4, e5⟩ := ih fu (c + 1) (by omega) (by omega) (by omega) (by omega) (us M 1 2 (nI (c + 1))) (hT.cg (us_ne _ _ _ (by decide)) (us_ne _ _ _ (by decide))) (by rw [us_app, if_pos ⟨rfl, rfl⟩]) (by rw [us_app, if_neg (by decide)]; exact h33)
        exact ⟨M', e1, e2, e3, fun i z1 z2 => by rw [e4 i z1 z2, us_app, if_neg (fun y => z1 y.2)], fun a z => by rw [e5 a z, us_ne _ _ _ z]⟩
      · rw [show run x (k + 1) c = c by rw [run, if_neg (fun z => hq z.2)], if_neg hq, if_pos (show (0 : Int32) = 0 from rfl)]
        exact fin c h3 h4 M h32 h33
    · rw [show run x (k + 1) c = c by rw [run, if_neg (fun z => hc z.1)], if_pos (nI_le (by omega) (by omega))]
      exact fin c h3 h4 M h32 h33
theorem m_sl {x : Nat × (Nat → Nat)} {st b : Nat} (hW : WfX x) : ∀ k fu c, x.1 - c ≤ k → k < fu → c ≤ x.1 → st ≤ c → ∀ (M : Mem), TxM M x → M 197 15 = nI c → M 197 16 = nI st → ∃ M', gX8_next_180 fu (nI b) M = some M' ∧ M' 197 15 = nI (run x k c) ∧ M' 197 17 = nI 1 ∧ M' 197 18 = nI (if run x k c - st = 1 then b else 0) ∧ (∀ i, i ≠ 15 → i ≠ 17 → i ≠ 18 → M' 197 i = M 197 i) ∧ ∀ a, a ≠ 197 → M' a = M a := by
  have hN := hW.1
  have fin : ∀ c, c ≤ x.1 → st ≤ c → ∀ (M : Mem), M 197 15 = nI c → M 197 16 = nI st → ∃ M', ((some (us M 197 17 1)).bind fun M34 => if ((M34 197 15) - (M34 197 16)) = 1 then (gX8_next_231 (nI b) M34) else (gX8_next_231 0 M34)) = some M' ∧ M' 197 15 = nI c ∧ M' 197 17 = nI 1 ∧ M' 197 18 = nI (if c - st = 1 then b else 0) ∧ (∀ i, i ≠ 15 → i ≠ 17 → i ≠ 18 → M' 197 i = M 197 i) ∧ ∀ a, a ≠ 197 → M' a = M a := by
    intro c h1 h2 M h15 h16
    have g15 : us M 197 17 1 197 15 = nI c := by rw [us_app, if_neg (by decide)]; exact h15
    have g16 : us M 197 17 1 197 16 = nI st := by rw [us_app, if_neg (by decide)]; exact h16
    rw [obs, g15, g16, pk_sub h2]
    by_cases q : c - st = 1
    · refine ⟨us (us M 197 17 1) 197 18 (nI b), by rw [if_pos (show nI (c - st) = 1 from congrArg nI q), gX8_next_231, obs], by rw [us_app, if_neg (by decide)]; exact g15, by rw [us_app, if_neg (by decide), us_app, if_pos ⟨rfl, rfl⟩]; rfl, by rw [us_app, if_pos ⟨rfl, rfl⟩, if_pos q], fun i _ z1 z2 => by rw [us_app, if_neg (fun y => z2 y.2), us_app, if_neg (fun y => z1 y.2)], fun a z => by rw [us_ne _ _ _ z, us_ne _ _ _ z]⟩
    · refine ⟨us (us M 197 17 1) 197 18 0, by rw [if_neg (show ¬ nI (c - st) = 1 from fun z => q (nI_inj (b := 1) (by omega) (by omega) z)), gX8_next_231, obs], by rw [us_app, if_neg (by decide)]; exact g15, by rw [us_app, if_neg (by decide), us_app, if_pos ⟨rfl, rfl⟩]; rfl, by rw [us_app, if_pos ⟨rfl, rfl⟩, if_neg q]; rfl, fun i _ z1 z2 => by rw [us_app, if_neg (fun y => z2 y.2), us_app, if_neg (fun y => z1 y.2)], fun a z => by rw [us_ne _ _ _ z, us_ne _ _ _ z]⟩
  intro k
  induction k with
  | zero =>
    intro fu c h1 h2 h3 h4 M hT h15 h16
    obtain ⟨fu, rfl⟩ : ∃ z, fu = z + 1 := ⟨fu - 1, by omega⟩
    rw [gX8_next_180, h15, m_let hT hW (by omega), obs, if_neg (by omega), m_lt1, obs, if_pos rfl]
    exact fin c h3 h4 M h15 h16
  | succ k ih =>
    intro fu c h1 h2 h3 h4 M hT h15 h16
    obtain ⟨fu, rfl⟩ : ∃ z, fu = z + 1 := ⟨fu - 1, by omega⟩
    rw [gX8_next_180, h15, m_let hT hW (by omega), obs]
    by_cases hc : c < x.1
    · rw [if_pos hc, m_lt (hW.2 c hc), obs]
      by_cases hq : ltP (x.2 c)
      · rw [show run x (k + 1) c = run x k (c + 1) by rw [run, if_pos ⟨hc, hq⟩], if_pos hq, if_neg (show ¬ (1 : Int32) = 0 by decide), nI_1, obs]
        obtain ⟨M', e1, e2, e3, e4, e5, e6⟩ := ih fu (c + 1) (by omega) (by omega) (by omega) (by omega) (us M 197 15 (nI (c + 1))) (hT.cg (by rw [us_app, if_neg (by decide)]) (us_ne _ _ _ (by decide))) (by rw [us_app, if_pos ⟨rfl, rfl⟩]) (by rw [us_app, if_neg (by decide)]; exact h16)
        exact ⟨M', e1, e2, e3, e4, fun i z1 z2 z3 => by rw [e5 i z1 z2 z3, us_app, if_neg (fun y => z1 y.2)], fun a z => by rw [e6 a z, us_ne _ _ _ z]⟩
      · rw [show run x (k + 1) c = c by rw [run, if_neg (fun z => hq z.2)], if_neg hq, if_pos (show (0 : Int32) = 0 from rfl)]
        exact fin c h3 h4 M h15 h16
    · rw [show run x (k + 1) c = c by rw [run, if_neg (fun z => hc z.1)], if_neg hc, m_lt1, obs, if_pos (show (0 : Int32) = 0 from rfl)]
      exact fin c h3 h4 M h15 h16
-- numbers
abbrev nmK (x : Nat × (Nat → Nat)) (st : Nat) (r : Nat × Nat) : Prop := r.2 ≤ 99 ∧ ¬ (x.2 st = 48 ∧ 1 < r.1 - st)
theorem c_sn {x : Nat × (Nat → Nat)} {st : Nat} (hW : WfX x) (hst : st < x.1) : ∀ k fu c v, x.1 - c ≤ k → k < fu → c ≤ x.1 → st ≤ c → v ≤ 999 → ∀ (M : Mem), TxC M x → M 1 2 = nI c → M 1 3 = nI st → M 1 5 = nI (min v 100) → ∃ M', gX2_scanNumber_5 fu M = some M' ∧ M' 1 2 = nI (nmr x k c v).1 ∧ M' 1 5 = nI (min (nmr x k c v).2 100) ∧ M' 1 4 = nI (if nmK x st (nmr x k c v) then 2 else 4) ∧ (∀ i, i ≠ 2 → i ≠ 4 → i ≠ 5 → M' 1 i = M 1 i) ∧ ∀ a, a ≠ 1 → M' a = M a := by
  have hN := hW.1
  have hb := hW.2 st hst
  have fin : ∀ c v, c ≤ x.1 → st ≤ c → v ≤ 999 → ∀ (M : Mem), TxC M x → M 1 2 = nI c → M 1 3 = nI st → M 1 5 = nI (min v 100) → ∃ M', gX2_scanNumber_82 M = some M' ∧ M' 1 2 = nI c ∧ M' 1 5 = nI (min v 100) ∧ M' 1 4 = nI (if nmK x st (c, v) then 2 else 4) ∧ (∀ i, i ≠ 2 → i ≠ 4 → i ≠ 5 → M' 1 i = M 1 i) ∧ ∀ a, a ≠ 1 → M' a = M a := by
    intro c v h1 h2 hv M hT h32 h33 h35
    have put : ∀ (y : Nat), y = (if nmK x st (c, v) then 2 else 4) → ∃ M', gX2_scanNumber_137 (nI y) M = some M' ∧ M' 1 2 = nI c ∧ M' 1 5 = nI (min v 100) ∧ M' 1 4 = nI (if nmK x st (c, v) then 2 else 4) ∧ (∀ i, i ≠ 2 → i ≠ 4 → i ≠ 5 → M' 1 i = M 1 i) ∧ ∀ a, a ≠ 1 → M' a = M a := fun y hy => ⟨us M 1 4 (nI y), by rw [gX2_scanNumber_137, obs], by rw [us_app, if_neg (by decide)]; exact h32, by rw [us_app, if_neg (by decide)]; exact h35, by rw [us_app, if_pos ⟨rfl, rfl⟩, hy], fun i _ z _ => by rw [us_app, if_neg (fun y => z y.2)], fun a z => us_ne _ _ _ z⟩
    have h116 : ¬ (x.2 st = 48 ∧ 1 < c - st) → ∃ M', gX2_scanNumber_116 M = some M' ∧ M' 1 2 = nI c ∧ M' 1 5 = nI (min v 100) ∧ M' 1 4 = nI (if nmK x st (c, v) then 2 else 4) ∧ (∀ i, i ≠ 2 → i ≠ 4 → i ≠ 5 → M' 1 i = M 1 i) ∧ ∀ a, a ≠ 1 → M' a = M a := by
      intro hz
      rw [gX2_scanNumber_116, gX2_scanNumber_117, if_pos (show (0 : Int32) = 0 from rfl), h35]
      by_cases q : v ≤ 99
      · rw [if_pos (show _ ≤ (99 : Int32) from nI_le (b := 99) (by omega) (by omega))]
        exact put 2 (by rw [if_pos ⟨q, hz⟩])
      · rw [if_neg (show ¬ _ ≤ (99 : Int32) from nI_ge (a := 99) (by omega) (by omega)), gX2_scanNumber_132]
        exact put 4 (by rw [if_neg (fun z => q z.1)])
    rw [gX2_scanNumber_82, h33, ldA_n _ (by omega) (by decide), hT.2 st hst, obs, h32, pk_sub h2]
    by_cases q : x.2 st = 48
    · rw [if_pos (show nI (x.2 st) = 48 from congrArg nI q)]
      by_cases q2 : c - st ≤ 1
      · rw [if_pos (show _ ≤ (1 : Int32) from nI_le (b := 1) q2 (by omega))]
        exact h116 (fun z => by omega)
      · rw [if_neg (show ¬ _ ≤ (1 : Int32) from nI_ge (a := 1) (by omega) (by omega)), gX2_scanNumber_117, if_neg (by decide), gX2_scanNumber_132]
        exact put 4 (by rw [if_neg (fun z => z.2 ⟨q, show 1 < c - st by omega⟩)])
    · rw [if_neg (show ¬ nI (x.2 st) = 48 from fun z => q (nI_inj (b := 48) (by omega) (by omega) z))]
      exact h116 (fun z => q z.1)
  intro k
  induction k with
  | zero =>
    intro fu c v h1 h2 h3 h4 hv M hT h32 h33 h35
    obtain ⟨fu, rfl⟩ : ∃ z, fu = z + 1 := ⟨fu - 1, by omega⟩
    rw [gX2_scanNumber_5, hT.1, h32, if_pos (nI_le (by omega) (by omega))]
    exact fin c v h3 h4 hv M hT h32 h33 h35
  | succ k ih =>
    intro fu c v h1 h2 h3 h4 hv M hT h32 h33 h35
    obtain ⟨fu, rfl⟩ : ∃ z, fu = z + 1 := ⟨fu - 1, by omega⟩
    rw [gX2_scanNumber_5, hT.1, h32]
    by_cases hc : c < x.1
    · rw [if_neg (nI_ge hc (by omega)), ldA_n _ (by omega) (by decide), hT.2 c hc, obs, c_dg (hW.2 c hc), obs]
      by_cases hq : dgP (x.2 c)
      · have g2 : ∀ y, us M 1 5 y 1 2 = nI c := fun y => by rw [us_app, if_neg (by decide)]; exact h32
        rw [show nmr x (k + 1) c v = nmr x k (c + 1) (if v ≤ 99 then 10 * v + x.2 c - 48 else v) by rw [nmr, if_pos ⟨hc, hq⟩], if_pos hq, if_neg (show ¬ (1 : Int32) = 0 by decide), obs, h35, i_10, pk_mul, nI_add, show (48 : Int32) = nI 48 from rfl, pk_sub (by omega), show (100 : Int32) = nI 100 from rfl, mn_n (by omega) (by omega), obs, obs, g2, nI_1, obs]
        obtain ⟨M', e1, e2, e3, e4, e5, e6⟩ := ih fu (c + 1) (if v ≤ 99 then 10 * v + x.2 c - 48 else v) (by omega) (by omega) (by omega) (by omega) (by split <;> omega) (us (us M 1 5 (nI (min (min v 100 * 10 + x.2 c - 48) 100))) 1 2 (nI (c + 1))) (hT.cg (by rw [us_ne _ _ _ (by decide), us_ne _ _ _ (by decide)]) (by rw [us_ne _ _ _ (by decide), us_ne _ _ _ (by decide)])) (by rw [us_app, if_pos ⟨rfl, rfl⟩]) (by rw [us_app, if_neg (by decide), us_app, if_neg (by decide)]; exact h33) (by
          rw [us_app, if_neg (by decide), us_app, if_pos ⟨rfl, rfl⟩]
          congr 1
          split <;> omega)
        exact ⟨M', e1, e2, e3, e4, fun i z1 z2 z3 => by rw [e5 i z1 z2 z3, us_app, if_neg (fun y => z1 y.2), us_app, if_neg (fun y => z3 y.2)], fun a z => by rw [e6 a z, us_ne _ _ _ z, us_ne _ _ _ z]⟩
      · rw [show nmr x (k + 1) c v = (c, v) by rw [nmr, if_neg (fun z => hq z.2)], if_neg hq, if_pos (show (0 : Int32) = 0 from rfl)]
        exact fin c v h3 h4 hv M hT h32 h33 h35
    · rw [show nmr x (k + 1) c v = (c, v) by rw [nmr, if_neg (fun z => hc z.1)], if_pos (nI_le (by omega) (by omega))]
      exact fin c v h3 h4 hv M hT h32 h33 h35
theorem m_sn {x : Nat × (Nat → Nat)} {st : Nat} (hW : WfX x) (hst : st < x.1) : ∀ k fu c v, x.1 - c ≤ k → k < fu → c ≤ x.1 → st ≤ c → v ≤ 999 → ∀ (M : Mem), TxM M x → M 197 15 = nI c → M 197 16 = nI st → M 197 18 = nI v → ∃ M', gX8_next_67 fu (nI (x.2 st)) M = some M' ∧ M' 197 15 = nI (nmr x k c v).1 ∧ M' 197 18 = nI (nmr x k c v).2 ∧ M' 197 17 = nI (if nmK x st (nmr x k c v) then 2 else 4) ∧ (∀ i, i ≠ 15 → i ≠ 17 → i ≠ 18 → M' 197 i = M 197 i) ∧ ∀ a, a ≠ 197 → M' a = M a := by
  have hN := hW.1
  have hb := hW.2 st hst
  have fin : ∀ c v, c ≤ x.1 → st ≤ c → v ≤ 999 → ∀ (M : Mem), M 197 15 = nI c → M 197 16 = nI st → M 197 18 = nI v → ∃ M', (if 99 < (M 197 18) then (gX8_next_162 M) else (if nI (x.2 st) = 48 then (if ((M 197 15) - (M 197 16)) ≤ 1 then (gX8_next_166 M) else (gX8_next_162 M)) else (gX8_next_166 M))) = some M' ∧ M' 197 15 = nI c ∧ M' 197 18 = nI v ∧ M' 197 17 = nI (if nmK x st (c, v) then 2 else 4) ∧ (∀ i, i ≠ 15 → i ≠ 17 → i ≠ 18 → M' 197 i = M 197 i) ∧ ∀ a, a ≠ 197 → M' a = M a := by
    intro c v h1 h2 hv M h15 h16 h18
    have put : ∀ (y : Nat), y = (if nmK x st (c, v) then 2 else 4) → ∃ M', gX8_next_167 (nI y) M = some M' ∧ M' 197 15 = nI c ∧ M' 197 18 = nI v ∧ M' 197 17 = nI (if nmK x st (c, v) then 2 else 4) ∧ (∀ i, i ≠ 15 → i ≠ 17 → i ≠ 18 → M' 197 i = M 197 i) ∧ ∀ a, a ≠ 197 → M' a = M a := fun y hy => ⟨us M 197 17 (nI y), by rw [gX8_next_167, obs], by rw [us_app, if_neg (by decide)]; exact h15, by rw [us_app, if_neg (by decide)]; exact h18, by rw [us_app, if_pos ⟨rfl, rfl⟩, hy], fun i _ z _ => by rw [us_app, if_neg (fun y => z y.2)], fun a z => us_ne _ _ _ z⟩
    rw [h18, h15, h16, pk_sub h2]
    by_cases q : v ≤ 99
    · rw [if_neg (show ¬ (99 : Int32) < _ from nI_nlt (a := 99) q (by omega))]
      by_cases q1 : x.2 st = 48
      · rw [if_pos (show nI (x.2 st) = 48 from congrArg nI q1)]
        by_cases q2 : c - st ≤ 1
        · rw [if_pos (show _ ≤ (1 : Int32) from nI_le (b := 1) q2 (by omega)), gX8_next_166]
          exact put 2 (by rw [if_pos ⟨q, fun z => by have : 1 < c - st := z.2; omega⟩])
        · rw [if_neg (show ¬ _ ≤ (1 : Int32) from nI_ge (a := 1) (by omega) (by omega)), gX8_next_162]
          exact put 4 (by rw [if_neg (fun z => z.2 ⟨q1, show 1 < c - st by omega⟩)])
      · rw [if_neg (show ¬ nI (x.2 st) = 48 from fun z => q1 (nI_inj (b := 48) (by omega) (by omega) z)), gX8_next_166]
        exact put 2 (by rw [if_pos ⟨q, fun z => q1 z.1⟩])
    · rw [if_pos (show (99 : Int32) < _ from nI_lt (a := 99) (by omega) (by omega)), gX8_next_162]
      exact put 4 (by rw [if_neg (fun z => q z.1)])
  intro k
  induction k with
  | zero =>
    intro fu c v h1 h2 h3 h4 hv M hT h15 h16 h18
    obtain ⟨fu, rfl⟩ : ∃ z, fu = z + 1 := ⟨fu - 1, by omega⟩
    rw [gX8_next_67, show gX8_letterAt (M 197 15) M = some (-1) by rw [h15, m_let hT hW (by omega), if_neg (by omega)], obs, m_dg1, obs, if_pos rfl]
    exact fin c v h3 h4 hv M h15 h16 h18
  | succ k ih =>
    intro fu c v h1 h2 h3 h4 hv M hT h15 h16 h18
    obtain ⟨fu, rfl⟩ : ∃ z, fu = z + 1 := ⟨fu - 1, by omega⟩
    rw [gX8_next_67]
    by_cases hc : c < x.1
    · rw [show gX8_letterAt (M 197 15) M = some (nI (x.2 c)) by rw [h15, m_let hT hW (by omega), if_pos hc], obs, m_dg (hW.2 c hc), obs]
      by_cases hq : dgP (x.2 c)
      · rw [show nmr x (k + 1) c v = nmr x k (c + 1) (if v ≤ 99 then 10 * v + x.2 c - 48 else v) by rw [nmr, if_pos ⟨hc, hq⟩], if_pos hq, if_neg (show ¬ (1 : Int32) = 0 by decide)]
        have go : ∀ y, y = (if v ≤ 99 then 10 * v + x.2 c - 48 else v) → ∃ M', gX8_next_117 (gX8_next_67 fu) (nI (x.2 st)) (nI y) M = some M' ∧ M' 197 15 = nI (nmr x k (c + 1) (if v ≤ 99 then 10 * v + x.2 c - 48 else v)).1 ∧ M' 197 18 = nI (nmr x k (c + 1) (if v ≤ 99 then 10 * v + x.2 c - 48 else v)).2 ∧ M' 197 17 = nI (if nmK x st (nmr x k (c + 1) (if v ≤ 99 then 10 * v + x.2 c - 48 else v)) then 2 else 4) ∧ (∀ i, i ≠ 15 → i ≠ 17 → i ≠ 18 → M' 197 i = M 197 i) ∧ ∀ a, a ≠ 197 → M' a = M a := by
          intro y hy
          obtain ⟨M', e1, e2, e3, e4, e5, e6⟩ := ih fu (c + 1) (if v ≤ 99 then 10 * v + x.2 c - 48 else v) (by omega) (by omega) (by omega) (by omega) (by split <;> omega) (us (us M 197 18 (nI y)) 197 15 (nI (c + 1))) (hT.cg (by rw [us_app, if_neg (by decide), us_app, if_neg (by decide)]) (by rw [us_ne _ _ _ (by decide), us_ne _ _ _ (by decide)])) (by rw [us_app, if_pos ⟨rfl, rfl⟩]) (by rw [us_app, if_neg (by decide), us_app, if_neg (by decide)]; exact h16) (by rw [us_app, if_neg (by decide), us_app, if_pos ⟨rfl, rfl⟩, hy])
          refine ⟨M', ?_, e2, e3, e4, fun i z1 z2 z3 => by rw [e5 i z1 z2 z3, us_app, if_neg (fun y => z1 y.2), us_app, if_neg (fun y => z3 y.2)], fun a z => by rw [e6 a z, us_ne _ _ _ z, us_ne _ _ _ z]⟩
          rw [gX8_next_117, obs, show us M 197 18 (nI y) 197 15 = nI c by rw [us_app, if_neg (by decide)]; exact h15, nI_1, obs]
          exact e1
        rw [h18]
        by_cases hv9 : v ≤ 99
        · rw [if_pos (show _ ≤ (99 : Int32) from nI_le (b := 99) hv9 (by omega)), obs, i_10, pk_mul, nI_add, show (48 : Int32) = nI 48 from rfl, pk_sub (by omega)]
          exact go _ (by rw [if_pos hv9])
        · rw [if_neg (show ¬ _ ≤ (99 : Int32) from nI_ge (a := 99) (by omega) (by omega))]
          exact go _ (by rw [if_neg hv9])
      · rw [show nmr x (k + 1) c v = (c, v) by rw [nmr, if_neg (fun z => hq z.2)], if_neg hq, if_pos (show (0 : Int32) = 0 from rfl)]
        exact fin c v h3 h4 hv M h15 h16 h18
    · rw [show gX8_letterAt (M 197 15) M = some (-1) by rw [h15, m_let hT hW (by omega), if_neg hc], obs, m_dg1, obs, if_pos (show (0 : Int32) = 0 from rfl), show nmr x (k + 1) c v = (c, v) by rw [nmr, if_neg (fun z => hc z.1)]]
      exact fin c v h3 h4 hv M h15 h16 h18
