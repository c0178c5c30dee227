theorem cp0 {n : Nat} (hn : n < 2147483648) (M : Mem) (o0 o1 : Nat) : cpA n n M o0 (nI 0) o1 (nI 0) (nI n) = some (uf M o1 (va_cpy (M o0) (M o1) 0 0 n)) := by
  have h0 : (nI 0).toNatClampNeg = 0 := nI_clamp (by decide)
  have h1 : (nI n).toNatClampNeg = n := nI_clamp hn
  unfold cpA
  rw [if_neg, h0, h1]
  rw [h0, h1]
  rintro (h | h)
  · rcases h with h | h | h
    · exact absurd h (nI_pos (by decide))
    · exact absurd h (nI_pos (by decide))
    · exact absurd h (nI_pos hn)
  · omega
theorem c_copy {M : Mem} {o0 o1 : Nat} (hd : o0 + 5 ≤ o1 ∨ o1 + 5 ≤ o0) : ∃ M', gX1_copyFrom o0 o1 M = some M' ∧ (∀ pe B, pe ≤ 5 → (∀ p, p < pe → bS B p ≤ 12) → MoC M o1 pe B → MoC M' o0 pe B) ∧ ∀ a, a < o0 ∨ o0 + 5 ≤ a → M' a = M a := by
  have e1 : ∀ (N : Mem), cpA 5 5 N (o1 + 1) 0 (o0 + 1) 0 5 = some (uf N (o0 + 1) (va_cpy (N (o1 + 1)) (N (o0 + 1)) 0 0 5)) := fun N => cp0 (by decide) N _ _
  have e2 : ∀ (N : Mem), cpA 5 5 N (o1 + 2) 0 (o0 + 2) 0 5 = some (uf N (o0 + 2) (va_cpy (N (o1 + 2)) (N (o0 + 2)) 0 0 5)) := fun N => cp0 (by decide) N _ _
  have e3 : ∀ (N : Mem), cpA 60 60 N (o1 + 3) 0 (o0 + 3) 0 60 = some (uf N (o0 + 3) (va_cpy (N (o1 + 3)) (N (o0 + 3)) 0 0 60)) := fun N => cp0 (by decide) N _ _
  have e4 : ∀ (N : Mem), cpA 40 40 N (o1 + 4) 0 (o0 + 4) 0 40 = some (uf N (o0 + 4) (va_cpy (N (o1 + 4)) (N (o0 + 4)) 0 0 40)) := fun N => cp0 (by decide) N _ _
  refine ⟨_, (by simp only [gX1_copyFrom, Option.bind_some, e1, e2, e3, e4]; rfl), ?_, ?_⟩
  · intro pe B hpe hS h
    obtain ⟨h1, h2, h3, h4, h5, h6⟩ := h
    refine ⟨?_, ?_, fun p hp => ?_, fun p hp => ?_, fun p hp k hk => ?_, fun j hj t ht => ?_⟩
    · rw [uf_ne _ _ (by omega), uf_ne _ _ (by omega), uf_ne _ _ (by omega), uf_ne _ _ (by omega), us_app, if_neg (by omega), us_app, if_pos ⟨rfl, rfl⟩]
      exact h1
    · rw [uf_ne _ _ (by omega), uf_ne _ _ (by omega), uf_ne _ _ (by omega), uf_ne _ _ (by omega), us_app, if_pos ⟨rfl, rfl⟩, us_ne _ _ _ (by omega)]
      exact h2
    · rw [uf_ne _ _ (by omega), uf_ne _ _ (by omega), uf_ne _ _ (by omega), uf_at, sb_cpy0 (by omega), us_ne _ _ _ (by omega), us_ne _ _ _ (by omega)]
      exact h3 p hp
    · rw [uf_ne _ _ (by omega), uf_ne _ _ (by omega), uf_at, sb_cpy0 (by omega), uf_ne _ _ (by omega), us_ne _ _ _ (by omega), us_ne _ _ _ (by omega)]
      exact h4 p hp
    · have := hS p hp
      rw [uf_ne _ _ (by omega), uf_at, sb_cpy0 (by omega), uf_ne _ _ (by omega), uf_ne _ _ (by omega), us_ne _ _ _ (by omega), us_ne _ _ _ (by omega)]
      exact h5 p hp k hk
    · rw [uf_at, sb_cpy0 (by omega), uf_ne _ _ (by omega), uf_ne _ _ (by omega), uf_ne _ _ (by omega), us_ne _ _ _ (by omega), us_ne _ _ _ (by omega)]
      exact h6 j hj t ht
  · intro a ha
    rw [uf_ne _ _ (by omega), uf_ne _ _ (by omega), uf_ne _ _ (by omega), uf_ne _ _ (by omega), us_ne _ _ _ (by omega), us_ne _ _ _ (by omega)]
def remT (X : Tms) : Tms := if mK X = 10 then (10, mB X, fun i => if i = 9 then mB X else mP X (i + 1)) else (mK X + 1, mB X, fun i => if i = mK X then mB X else mP X i)
theorem remT_B (X : Tms) : mB (remT X) = mB X := by unfold remT mB; split <;> rfl
theorem remT_W {pe lg : Nat} {X : Tms} (h : WfM pe lg X) : WfM pe lg (remT X) := by
  refine ⟨?_, by rw [remT_B]; exact h.2.1, fun i hi => ?_⟩
  · unfold remT mK
    split
    · exact Nat.le_refl 10
    · have := h.1
      unfold mK at this
      show X.1 + 1 ≤ 10
      omega
  · unfold remT at hi ⊢
    by_cases hk : mK X = 10
    · rw [if_pos hk] at hi ⊢
      have hi : i < 10 := hi
      show WfB pe lg (if i = 9 then mB X else mP X (i + 1))
      split
      · exact h.2.1
      · exact h.2.2 (i + 1) (by omega)
    · rw [if_neg hk] at hi ⊢
      have hi : i < mK X + 1 := hi
      show WfB pe lg (if i = mK X then mB X else mP X i)
      split
      · exact h.2.1
      · exact h.2.2 i (by omega)
theorem c_lose_l {t c0 : Nat} {σ : Nat → Nat} (h0 : (kd t).1 = 7) (hc : (kd c0).1 = 3) (hσ : ∀ i, i < 10 → σ i < 10) : ∀ n i, 1 ≤ i → i ≤ 10 → 10 - i < n → ∀ (M : Mem), (∀ j, j < i - 1 → M (t + 6) j = nI (t + 7 + 5 * σ (j + 1))) → (∀ j, i - 1 ≤ j → j < 10 → M (t + 6) j = nI (t + 7 + 5 * σ j)) → ∃ M', gX5_loseOldest_9 t n (nI c0) (nI i) M = some M' ∧ (∀ j, j < 9 → M' (t + 6) j = nI (t + 7 + 5 * σ (j + 1))) ∧ M' (t + 6) 9 = nI c0 ∧ M' t 2 = nI 9 ∧ ∀ a, a ≠ t → a ≠ t + 6 → M' a = M a := by
  have ht := kd_lt (o := t) (by rw [h0]; decide)
  have hc2 := kd_lt (o := c0) (by rw [hc]; decide)
  intro n
  induction n with
  | zero => intro i _ _ h2; omega
  | succ n ih =>
    intro i h1 h2 h3 M hA hB
    rw [gX5_loseOldest_9]
    by_cases hi : 10 ≤ i
    · have hi4 : i = 10 := by omega
      subst hi4
      have g1 : gK 3 (nI c0) = some (nI c0) := by
        unfold gK
        rw [nI_clamp (by omega), if_pos hc]
      have g2 : stA 10 M (t + 6) 9 (nI c0) = some (us M (t + 6) 9 (nI c0)) := stA_n M (t + 6) (nI c0) (j := 9) (by decide) (by decide)
      refine ⟨us (us M (t + 6) 9 (nI c0)) t 2 9, ?_, fun j hj => ?_, ?_, ?_, fun a q1 q2 => ?_⟩
      · rw [if_pos (show (10 : Int32) ≤ nI 10 from nI_le (a := 10) (by omega) (by omega)), g1, Option.bind_some, g2, Option.bind_some, Option.bind_some]
      · rw [us_ne _ _ _ (by omega), us_app, if_neg (by omega)]
        exact hA j (by omega)
      · rw [us_ne _ _ _ (by omega), us_app, if_pos ⟨rfl, rfl⟩]
      · rw [us_app, if_pos ⟨rfl, rfl⟩]; rfl
      · rw [us_ne _ _ _ q1, us_ne _ _ _ q2]
    · have hk : (kd (t + 7 + 5 * σ i)).1 = 3 := kt_X5 h0 (hσ i (by omega))
      have hσi := hσ i (by omega)
      have g1 : ldR 3 10 (M (t + 6)) (nI i) = some (nI (t + 7 + 5 * σ i)) := ldR_n _ (by omega) (by decide) (hB i (by omega) (by omega)) (by omega) hk
      obtain ⟨M', e1, e2, e3, e4, e5⟩ := ih (i + 1) (by omega) (by omega) (by omega) (us M (t + 6) (i - 1) (nI (t + 7 + 5 * σ i))) (fun j hj => by
        rw [us_app]
        by_cases hq : j = i - 1
        · rw [if_pos ⟨rfl, hq⟩, hq, show i - 1 + 1 = i by omega]
        · rw [if_neg (fun q => hq q.2)]; exact hA j (by omega)) (fun j q1 q2 => by
        rw [us_app, if_neg (by omega)]; exact hB j (by omega) q2)
      refine ⟨M', ?_, e2, e3, e4, fun a q1 q2 => by rw [e5 a q1 q2, us_ne _ _ _ q2]⟩
      rw [if_neg (show ¬ (10 : Int32) ≤ nI i from nI_ge (b := 10) (by omega) (by omega)), g1, Option.bind_some, i_1, pk_sub h1, stA_n _ _ _ (by omega) (by decide), Option.bind_some, nI_add, Option.bind_some]
      exact e1
theorem c_rem13 {t pe lg : Nat} {X : Tms} {σ : Nat → Nat} {M : Mem} (hpe : pe ≤ 5) (hlg : lg ≤ 12) (h0 : (kd t).1 = 7) (hW : WfM pe lg X) (hk : mK X < 10) (hP : Prm M t σ) (hT : TmC M t pe X σ) : ∃ M', gX5_remember_13 t M = some M' ∧ Prm M' t σ ∧ TmC M' t pe (mK X + 1, mB X, fun i => if i = mK X then mB X else mP X i) σ ∧ ∀ a, a < t ∨ t + 57 ≤ a → M' a = M a := by
  have ht := kd_lt (o := t) (by rw [h0]; decide)
  have hσ := (hP.1 (mK X) hk).1
  have hk3 : (kd (t + 7 + 5 * σ (mK X))).1 = 3 := kt_X5 h0 hσ
  have g1 : ldR 3 10 (M (t + 6)) (M t 2) = some (nI (t + 7 + 5 * σ (mK X))) := by rw [hT.1]; exact ldR_n _ hk (by decide) (hP.1 _ hk).2 (by omega) hk3
  obtain ⟨M1, e1, e2, e3⟩ := c_copy (M := M) (o0 := t + 7 + 5 * σ (mK X)) (o1 := t + 1) (Or.inr (by omega))
  have hS : ∀ p, p < pe → bS (mB X) p ≤ 12 := fun p hp => by have := hW.2.1.2.2.1 p hp; omega
  refine ⟨us M1 t 2 (nI (mK X + 1)), ?_, ?_, ⟨?_, ?_, ?_⟩, ?_⟩
  · simp only [gX5_remember_13, g1, Option.bind_some, nI_clamp (show t + 7 + 5 * σ (mK X) < 2 ^ 31 by omega), e1]
    rw [e3 t (by omega), hT.1, nI_1]
  · exact hP.cg (by rw [us_ne _ _ _ (by omega), e3 _ (by omega)])
  · rw [us_app, if_pos ⟨rfl, rfl⟩]; rfl
  · exact hT.2.1.cg (fun a q1 q2 => by rw [us_ne _ _ _ (by omega), e3 a (by omega)])
  · intro i hi
    have hi : i < mK X + 1 := hi
    show MoC _ (t + 7 + 5 * σ i) pe (if i = mK X then mB X else mP X i)
    by_cases hq : i = mK X
    · subst hq
      rw [if_pos rfl]
      exact (e2 pe (mB X) hpe hS hT.2.1).cg (fun a q1 q2 => us_ne _ _ _ (by omega))
    · rw [if_neg hq]
      have hσi := (hP.1 i (by omega)).1
      have hne : σ i ≠ σ (mK X) := fun q => hq (hP.2 i (mK X) (by omega) hk q)
      exact (hT.2.2 i (by omega)).cg (fun a q1 q2 => by rw [us_ne _ _ _ (by omega), e3 a (by omega)])
  · intro a ha
    rw [us_ne _ _ _ (by omega), e3 a (by omega)]
theorem c_rem {t pe lg : Nat} {X : Tms} {σ : Nat → Nat} {M : Mem} (hpe : pe ≤ 5) (hlg : lg ≤ 12) (h0 : (kd t).1 = 7) (hW : WfM pe lg X) (hP : Prm M t σ) (hT : TmC M t pe X σ) : ∃ M' σ', gX5_remember t M = some M' ∧ Prm M' t σ' ∧ TmC M' t pe (remT X) σ' ∧ ∀ a, a < t ∨ t + 57 ≤ a → M' a = M a := by
  have ht := kd_lt (o := t) (by rw [h0]; decide)
  have hk10 := hW.1
  unfold remT
  rw [gX5_remember, hT.1]
  by_cases hk : mK X = 10
  · rw [if_pos hk, hk, if_neg (show ¬ nI 10 < (10 : Int32) by decide)]
    have hσ := fun i (hi : i < 10) => (hP.1 i hi).1
    have hc : (kd (t + 7 + 5 * σ 0)).1 = 3 := kt_X5 h0 (hσ 0 (by decide))
    have hs0 := hσ 0 (by decide)
    have g1 : ldR 3 10 (M (t + 6)) 0 = some (nI (t + 7 + 5 * σ 0)) := ldR_n (j := 0) _ (by decide) (by decide) (hP.1 0 (by decide)).2 (by omega) hc
    obtain ⟨M1, e1, e2, e3, e4, e5⟩ := c_lose_l h0 hc hσ FU 1 (by decide) (by decide) (by unfold FU; decide) M (fun j hj => absurd hj (by omega)) (fun j q1 q2 => (hP.1 j q2).2)
    have g2 : gX5_loseOldest t M = some M1 := by rw [gX5_loseOldest, g1, Option.bind_some]; exact e1
    have hP1 : Prm M1 t (fun i => if i = 9 then σ 0 else σ (i + 1)) := by
      refine ⟨fun i hi => ?_, fun i j hi hj hij => ?_⟩
      · by_cases h9 : i = 9
        · subst h9; simp only [if_true]; exact ⟨hs0, e3⟩
        · simp only [if_neg h9]; exact ⟨hσ _ (by omega), e2 i (by omega)⟩
      · by_cases h9 : i = 9 <;> by_cases j9 : j = 9
        · omega
        · simp only [h9, if_true, if_neg j9] at hij
          have := hP.2 0 (j + 1) (by omega) (by omega) hij
          omega
        · simp only [j9, if_true, if_neg h9] at hij
          have := hP.2 (i + 1) 0 (by omega) (by omega) hij
          omega
        · simp only [if_neg h9, if_neg j9] at hij
          have := hP.2 (i + 1) (j + 1) (by omega) (by omega) hij
          omega
    have hT1 : TmC M1 t pe (9, mB X, fun i => mP X (i + 1)) (fun i => if i = 9 then σ 0 else σ (i + 1)) := by
      refine ⟨e4, hT.2.1.cg (fun a q1 q2 => e5 a (by omega) (by omega)), fun i hi => ?_⟩
      have hi : i < 9 := hi
      have hs1 := hσ (i + 1) (by omega)
      simp only [if_neg (show ¬ i = 9 by omega)]
      exact (hT.2.2 (i + 1) (by omega)).cg (fun a q1 q2 => e5 a (by omega) (by omega))
    obtain ⟨M2, f1, f2, f3, f4⟩ := c_rem13 (lg := lg) hpe hlg h0 (X := (9, mB X, fun i => mP X (i + 1))) ⟨by show 9 ≤ 10; omega, hW.2.1, fun i hi => hW.2.2 (i + 1) (by have : i < 9 := hi; omega)⟩ (show 9 < 10 by omega) hP1 hT1
    refine ⟨M2, _, by rw [g2, Option.bind_some]; exact f1, f2, f3, fun a ha => by rw [f4 a ha, e5 a (by omega) (by omega)]⟩
  · rw [if_neg hk, if_pos (show nI (mK X) < (10 : Int32) from nI_lt (b := 10) (by omega) (by omega))]
    obtain ⟨M2, f1, f2, f3, f4⟩ := c_rem13 hpe hlg h0 hW (by omega) hP hT
    exact ⟨M2, σ, f1, f2, f3, f4⟩
-- the reference's
theorem m_rem70 {pl : Nat} (hpl : 113 ≤ pl) (hpl2 : pl + 112 ≤ 1233) : ∀ n k, k ≤ 112 → 112 - k < n → ∀ (M : Mem), ∃ M', gX8_remembers_70 n (nI pl) (nI k) M = some (us M' 201 112 (M' 201 112 + 1)) ∧ (∀ a, a ≠ 201 → M' a = M a) ∧ (∀ j, (j < pl + k ∨ pl + 112 ≤ j) → M' 201 j = M 201 j) ∧ ∀ i, k ≤ i → i < 112 → M' 201 (pl + i) = M 201 i := by
  intro n
  induction n with
  | zero => intro k _ h2; omega
  | succ n ih =>
    intro k h1 h2 M
    rw [gX8_remembers_70]
    by_cases hk : 112 ≤ k
    · refine ⟨M, ?_, fun a _ => rfl, fun j _ => rfl, fun i q1 q2 => absurd q2 (by omega)⟩
      have g1 : ldA 1233 (M 201) 112 = some (M 201 112) := ldA_n (j := 112) _ (by decide) (by decide)
      have g2 : ∀ x, stA 1233 M 201 112 x = some (us M 201 112 x) := fun x => stA_n M 201 x (j := 112) (by decide) (by decide)
      rw [if_pos (show (112 : Int32) ≤ nI k from nI_le (a := 112) hk (by omega)), g1, Option.bind_some, g2, Option.bind_some]
    · rw [if_neg (show ¬ (112 : Int32) ≤ nI k from nI_ge (b := 112) (by omega) (by omega)), ldA_n _ (by omega) (by decide), Option.bind_some, nI_add, stA_n _ _ _ (by omega) (by decide), Option.bind_some, nI_1, Option.bind_some]
      obtain ⟨M', e1, e2, e3, e4⟩ := ih (k + 1) (by omega) (by omega) (us M 201 (pl + k) (M 201 k))
      refine ⟨M', e1, fun a ha => by rw [e2 a ha, us_ne _ _ _ ha], fun j hj => ?_, fun i q1 q2 => ?_⟩
      · rw [e3 j (by omega), us_app, if_neg (by omega)]
      · by_cases hik : i = k
        · subst hik
          rw [e3 (pl + i) (by omega), us_app, if_pos ⟨rfl, rfl⟩]
        · rw [e4 i (by omega) q2, us_app, if_neg (by omega)]
theorem m_rem15 : ∀ n k, 113 ≤ k → k ≤ 1121 → 1121 - k < n → ∀ (M : Mem), ∃ M', gX8_remembers_15 n (nI k) M = gX8_remembers_54 (us M' 201 112 (M' 201 112 - 1)) ∧ (∀ a, a ≠ 201 → M' a = M a) ∧ (∀ j, j < k → M' 201 j = M 201 j) ∧ ∀ j, k ≤ j → j < 1121 → M' 201 j = M 201 (j + 112) := by
  intro n
  induction n with
  | zero => intro k _ _ h2; omega
  | succ n ih =>
    intro k h0 h1 h2 M
    rw [gX8_remembers_15]
    by_cases hk : 1121 ≤ k
    · refine ⟨M, ?_, fun a _ => rfl, fun j _ => rfl, fun j q1 q2 => absurd q2 (by omega)⟩
      have g1 : ldA 1233 (M 201) 112 = some (M 201 112) := ldA_n (j := 112) _ (by decide) (by decide)
      have g2 : ∀ x, stA 1233 M 201 112 x = some (us M 201 112 x) := fun x => stA_n M 201 x (j := 112) (by decide) (by decide)
      rw [if_pos (show (1121 : Int32) ≤ nI k from nI_le (a := 1121) hk (by omega)), g1, Option.bind_some, g2, Option.bind_some]
    · rw [if_neg (show ¬ (1121 : Int32) ≤ nI k from nI_ge (b := 1121) (by omega) (by omega)), i_112, nI_add, ldA_n _ (by omega) (by decide), Option.bind_some, stA_n _ _ _ (by omega) (by decide), Option.bind_some, nI_1, Option.bind_some]
      obtain ⟨M', e1, e2, e3, e4⟩ := ih (k + 1) (by omega) (by omega) (by omega) (us M 201 k (M 201 (k + 112)))
      refine ⟨M', e1, fun a ha => by rw [e2 a ha, us_ne _ _ _ ha], fun j hj => ?_, fun j q1 q2 => ?_⟩
      · rw [e3 j (by omega), us_app, if_neg (by omega)]
      · by_cases hjk : j = k
        · subst hjk
          rw [e3 j (by omega), us_app, if_pos ⟨rfl, rfl⟩]
        · rw [e4 j (by omega) q2, us_app, if_neg (by omega)]
theorem MoM.eq {f f' : Nat → Int32} {q pe : Nat} {B : Blk} (hpe : pe ≤ 5) (hS : ∀ p, p < pe → bS B p ≤ 12) (h : MoM f q pe B) (hq : ∀ j, q ≤ j → j < q + 112 → f' j = f j) : MoM f' q pe B := h.cg hpe hS (fun i hi => hq _ (by omega) (by omega))
theorem m_rem54 {pe lg : Nat} {X : Tms} {M : Mem} (hpe : pe ≤ 5) (hlg : lg ≤ 12) (hW : WfM pe lg X) (hk : mK X < 10) (hT : TmM (M 201) 0 pe X) : ∃ M', gX8_remembers_54 M = some M' ∧ TmM (M' 201) 0 pe (mK X + 1, mB X, fun i => if i = mK X then mB X else mP X i) ∧ ∀ a, a ≠ 201 → M' a = M a := by
  have hS : ∀ p, p < pe → bS (mB X) p ≤ 12 := fun p hp => by have := hW.2.1.2.2.1 p hp; omega
  have hK : M 201 112 = nI (mK X) := by have := hT.1; rwa [Nat.zero_add] at this
  have g1 : ldA 1233 (M 201) 112 = some (nI (mK X)) := by rw [i_112, ldA_n _ (by decide) (by decide), hK]
  obtain ⟨M', e1, e2, e3, e4⟩ := m_rem70 (pl := 113 + 112 * mK X) (by omega) (by omega) FU 0 (by omega) (by unfold FU; omega) M
  have e5 : M' 201 112 = nI (mK X) := by rw [e3 112 (by omega)]; exact hK
  refine ⟨us M' 201 112 (nI (mK X + 1)), ?_, ⟨?_, ?_, ?_⟩, fun a ha => by rw [us_ne _ _ _ ha, e2 a ha]⟩
  · rw [gX8_remembers_54, g1, Option.bind_some, i_112, i_113, pk_mul, nI_add, Option.bind_some, i_0, e1, e5, nI_1]
  · rw [us_app, if_pos ⟨rfl, by omega⟩]; rfl
  · exact hT.2.1.eq hpe hS (fun j q1 q2 => by rw [us_app, if_neg (by omega), e3 j (by omega)])
  · intro i hi
    have hi : i < mK X + 1 := hi
    show MoM _ (0 + (113 + 112 * i)) pe (if i = mK X then mB X else mP X i)
    by_cases hq : i = mK X
    · subst hq
      rw [if_pos rfl]
      refine hT.2.1.cg hpe hS (fun j hj => ?_)
      rw [us_app, if_neg (by omega), Nat.zero_add, Nat.zero_add]
      exact e4 j (by omega) hj
    · rw [if_neg hq]
      exact (hT.2.2 i (by omega)).eq hpe (fun p hp => by have := (hW.2.2 i (by omega)).2.2.1 p hp; omega) (fun j q1 q2 => by rw [us_app, if_neg (by omega), e3 j (by omega)])
theorem m_rem {pe lg : Nat} {X : Tms} {M : Mem} (hpe : pe ≤ 5) (hlg : lg ≤ 12) (hW : WfM pe lg X) (hT : TmM (M 201) 0 pe X) : ∃ M', gX8_remembers M = some M' ∧ TmM (M' 201) 0 pe (remT X) ∧ ∀ a, a ≠ 201 → M' a = M a := by
  have hk10 := hW.1
  have hS : ∀ p, p < pe → bS (mB X) p ≤ 12 := fun p hp => by have := hW.2.1.2.2.1 p hp; omega
  have hK : M 201 112 = nI (mK X) := by have := hT.1; rwa [Nat.zero_add] at this
  have g1 : ldA 1233 (M 201) 112 = some (nI (mK X)) := by rw [i_112, ldA_n _ (by decide) (by decide), hK]
  unfold remT
  rw [gX8_remembers, g1, Option.bind_some]
  by_cases hk : mK X = 10
  · rw [if_pos hk, hk, if_pos (show nI 10 = (10 : Int32) from rfl)]
    obtain ⟨M1, e1, e2, e3, e4⟩ := m_rem15 FU 113 (by decide) (by decide) (by unfold FU; decide) M
    have e5 : M1 201 112 = nI 10 := by rw [e3 112 (by decide), hK, hk]
    have hT1 : TmM ((us M1 201 112 (M1 201 112 - 1)) 201) 0 pe (9, mB X, fun i => mP X (i + 1)) := by
      refine ⟨?_, ?_, fun i hi => ?_⟩
      · rw [us_app, if_pos ⟨rfl, by omega⟩, e5]; show nI 10 - 1 = nI 9; decide
      · exact hT.2.1.eq hpe hS (fun j q1 q2 => by rw [us_app, if_neg (by omega), e3 j (by omega)])
      · have hi : i < 9 := hi
        refine (hT.2.2 (i + 1) (by omega)).cg hpe (fun p hp => by have := (hW.2.2 (i + 1) (by omega)).2.2.1 p hp; show bS (mP X (i + 1)) p ≤ 12; omega) (fun j hj => ?_)
        rw [us_app, if_neg (by omega), e4 _ (by omega) (by omega), show 0 + (113 + 112 * i) + j + 112 = 0 + (113 + 112 * (i + 1)) + j by omega]
    obtain ⟨M2, f1, f2, f3⟩ := m_rem54 (lg := lg) hpe hlg (X := (9, mB X, fun i => mP X (i + 1))) ⟨by show 9 ≤ 10; omega, hW.2.1, fun i hi => hW.2.2 (i + 1) (by have : i < 9 := hi; omega)⟩ (show 9 < 10 by omega) hT1
    refine ⟨M2, ?_, f2, fun a ha => by rw [f3 a ha, us_ne _ _ _ ha, e2 a ha]⟩
    rw [i_113, e1]
    exact f1
  · rw [if_neg hk, if_neg (show ¬ nI (mK X) = (10 : Int32) from fun q => hk (nI_inj (b := 10) (by omega) (by omega) q))]
    exact m_rem54 hpe hlg hW (by omega) hT
