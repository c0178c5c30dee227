theorem c_tcopy_l {t u pe lg : Nat} {X : Tms} {σ τ : Nat → Nat} (hpe : pe ≤ 5) (hlg : lg ≤ 12) (h0 : (kd t).1 = 7) (h1 : (kd u).1 = 7) (hd : t + 57 ≤ u ∨ u + 57 ≤ t) (hW : WfM pe lg X) : ∀ n i, i ≤ mK X → mK X - i < n → ∀ (M : Mem), M t 2 = nI (mK X) → Prm M t σ → Prm M u τ → TmC M u pe X τ → (∀ j, j < i → MoC M (t + 7 + 5 * σ j) pe (mP X j)) → ∃ M', gX5_copyFrom_21 t u n (nI i) M = some M' ∧ (∀ j, j < mK X → MoC M' (t + 7 + 5 * σ j) pe (mP X j)) ∧ ∀ a, (a < t + 7 ∨ t + 57 ≤ a) → M' a = M a := by
  have ht := kd_lt (o := t) (by rw [h0]; decide)
  have hu := kd_lt (o := u) (by rw [h1]; decide)
  have hk := hW.1
  intro n
  induction n with
  | zero => intro i _ h2; omega
  | succ n ih =>
    intro i q1 q2 M hM hP hQ hT hj
    rw [gX5_copyFrom_21, hM]
    by_cases hi : mK X ≤ i
    · exact ⟨M, by rw [if_pos (nI_le hi (by omega))], fun j hj2 => hj j (by omega), fun a _ => rfl⟩
    · have hσ := (hP.1 i (by omega)).1
      have hτ := (hQ.1 i (by omega)).1
      have g1 : ldR 3 10 (M (t + 6)) (nI i) = some (nI (t + 7 + 5 * σ i)) := ldR_n _ (by omega) (by decide) (hP.1 i (by omega)).2 (by omega) (kt_X5 h0 hσ)
      have g2 : ldR 3 10 (M (u + 6)) (nI i) = some (nI (u + 7 + 5 * τ i)) := ldR_n _ (by omega) (by decide) (hQ.1 i (by omega)).2 (by omega) (kt_X5 h1 hτ)
      obtain ⟨M1, e1, e2, e3⟩ := c_copy (M := M) (o0 := t + 7 + 5 * σ i) (o1 := u + 7 + 5 * τ i) (by omega)
      have hS : ∀ p, p < pe → bS (mP X i) p ≤ 12 := fun p hp => by have := (hW.2.2 i (by omega)).2.2.1 p hp; omega
      obtain ⟨M2, f1, f2, f3⟩ := ih (i + 1) (by omega) (by omega) M1 (by rw [e3 t (by omega)]; exact hM) (hP.cg (e3 _ (by omega))) (hQ.cg (e3 _ (by omega))) (hT.cg hk hQ (fun a z1 z2 => e3 a (by omega))) (fun j hj2 => by
        by_cases hji : j = i
        · subst hji; exact e2 _ _ hpe hS (hT.2.2 j (by omega))
        · have hσj := (hP.1 j (by omega)).1
          have hne : σ j ≠ σ i := fun q => hji (hP.2 j i (by omega) (by omega) q)
          exact (hj j (by omega)).cg (fun a z1 z2 => e3 a (by omega)))
      exact ⟨M2, by rw [if_neg (nI_ge (by omega) (by omega)), g1, Option.bind_some, g2, Option.bind_some, nI_clamp (by omega), nI_clamp (by omega), e1, Option.bind_some, nI_1, Option.bind_some]; exact f1, f2, fun a ha => by rw [f3 a ha, e3 a (by omega)]⟩
theorem c_tcopy {t u pe lg : Nat} {X : Tms} {σ τ : Nat → Nat} {M : Mem} (hpe : pe ≤ 5) (hlg : lg ≤ 12) (h0 : (kd t).1 = 7) (h1 : (kd u).1 = 7) (hd : t + 57 ≤ u ∨ u + 57 ≤ t) (hW : WfM pe lg X) (hP : Prm M t σ) (hQ : Prm M u τ) (hT : TmC M u pe X τ) : ∃ M', gX5_copyFrom t u M = some M' ∧ Prm M' t σ ∧ TmC M' t pe X σ ∧ ∀ a, a < t ∨ t + 57 ≤ a → M' a = M a := by
  have hk := hW.1
  obtain ⟨M1, e1, e2, e3⟩ := c_copy (M := M) (o0 := t + 1) (o1 := u + 1) (by omega)
  have hS : ∀ p, p < pe → bS (mB X) p ≤ 12 := fun p hp => by have := hW.2.1.2.2.1 p hp; omega
  have hu2 : M1 u 2 = nI (mK X) := by rw [e3 u (by omega)]; exact hT.1
  have hP2 : Prm (us M1 t 2 (nI (mK X))) t σ := hP.cg (by rw [us_ne _ _ _ (by omega), e3 _ (by omega)])
  obtain ⟨M2, f1, f2, f3⟩ := c_tcopy_l hpe hlg h0 h1 hd hW FU 0 (by omega) (by unfold FU; omega) (us M1 t 2 (nI (mK X))) (by rw [us_app, if_pos ⟨rfl, rfl⟩]) hP2 (hQ.cg (by rw [us_ne _ _ _ (by omega), e3 _ (by omega)])) (hT.cg hk hQ (fun a z1 z2 => by rw [us_ne _ _ _ (by omega), e3 a (by omega)])) (fun j hj => absurd hj (Nat.not_lt_zero j))
  refine ⟨M2, ?_, hP2.cg (f3 _ (by omega)), ⟨?_, ?_, f2⟩, fun a ha => by rw [f3 a (by omega), us_ne _ _ _ (by omega), e3 a (by omega)]⟩
  · rw [gX5_copyFrom, e1, obs, hu2, obs, i_0]; exact f1
  · rw [f3 t (by omega), us_app, if_pos ⟨rfl, rfl⟩]
  · exact (e2 _ _ hpe hS hT.2.1).cg (fun a z1 z2 => by rw [f3 a (by omega), us_ne _ _ _ (by omega)])
theorem RC.setI {A : St} {M M' : Mem} {x : (Nat → Bool) × (Nat → Tms)} (hW : Wf A) (h : RC A M) (hx : ImC M' (tP (aW A)) x) (hq : ∀ a, a < 65 ∨ 181 ≤ a → M' a = M a) : RC (A.1, A.2.1, A.2.2.1, x, A.2.2.2.2) M' := by
  obtain ⟨c1, c2, c3, c4, c5, c6, c7⟩ := h
  exact ⟨c1.cg (hq _ (by decide)) (hq _ (by decide)), c2.cg (fun a q1 q2 => hq a (by omega)), TmC8 hW.2.2.1 c3 (fun a q1 q2 => hq a (by omega)), hx, c5.cg (by rw [hq 181 (by decide)]) (hq _ (by decide)), c6.cg (by rw [hq 181 (by decide)]) (hq _ (by decide)) (hq _ (by decide)), c7.cg (by rw [hq 185 (by decide)]) (by rw [hq 185 (by decide)])⟩
theorem RM.setI {A : St} {M M' : Mem} {x : (Nat → Bool) × (Nat → Tms)} (h : RM A M) (hx : ImM M' (tP (aW A)) x) (hq : ∀ a, a ≠ 202 → a ≠ 203 → M' a = M a) : RM (A.1, A.2.1, A.2.2.1, x, A.2.2.2.2) M' := by
  obtain ⟨c1, c2, c3, c4, c5, c6⟩ := h
  exact ⟨c1.cg (by rw [hq 197 (by decide) (by decide)]) (hq _ (by decide) (by decide)), c2.cg (by rw [hq 197 (by decide) (by decide)]) (by rw [hq 197 (by decide) (by decide)]) (fun a q1 q2 => hq a (by omega) (by omega)), by rw [hq 201 (by decide) (by decide)]; exact c3, hx, c5.cg (by rw [hq 197 (by decide) (by decide)]) (hq _ (by decide) (by decide)), c6.cg (by rw [hq 197 (by decide) (by decide)]) (hq _ (by decide) (by decide))⟩
theorem TmM.cg {f f' : Nat → Int32} {q q' pe lg : Nat} {X : Tms} (hpe : pe ≤ 5) (hlg : lg ≤ 12) (hW : WfM pe lg X) (h : TmM f q pe X) (hq : ∀ i, i < 1233 → f' (q' + i) = f (q + i)) : TmM f' q' pe X := by
  have hk := hW.1
  refine ⟨by rw [hq _ (by omega)]; exact h.1, h.2.1.cg hpe (wfS hlg hW.2.1) (fun i hi => hq i (by omega)), fun i hi => (h.2.2 i hi).cg hpe (wfS hlg (hW.2.2 i hi)) (fun j hj => ?_)⟩
  rw [Nat.add_assoc q', Nat.add_assoc q]
  exact hq (113 + 112 * i + j) (by omega)
theorem kk_im {i : Nat} (hi : i < 2) : (kd (66 + 57 * i)).1 = 7 := by
  rcases (show i = 0 ∨ i = 1 by omega) with rfl | rfl
  · exact kk_66
  · exact kk_123
theorem m_keep_l {i : Nat} (hi : i < 2) : ∀ n k, k ≤ 1233 → 1233 - k < n → ∀ (M : Mem), ∃ M', gX8_keep_13 n (nI i) (nI k) M = some (M 201 0, us M' 203 i 1) ∧ (∀ a, a ≠ 202 → M' a = M a) ∧ (∀ x, (x < 1233 * i + k ∨ 1233 * i + 1233 ≤ x) → M' 202 x = M 202 x) ∧ ∀ j, k ≤ j → j < 1233 → M' 202 (1233 * i + j) = M 201 j := by
  intro n
  induction n with
  | zero => intro k _ h2; omega
  | succ n ih =>
    intro k h1 h2 M
    rw [gX8_keep_13]
    by_cases hk : 1233 ≤ k
    · have g1 : ldA 1233 (us M 203 i 1 201) 0 = some (M 201 0) := by
        rw [us_ne _ _ _ (by decide)]; exact ldA_n (j := 0) _ (by decide) (by decide)
      exact ⟨M, by rw [if_pos (show (1233 : Int32) ≤ nI k from nI_le (a := 1233) hk (by omega)), stZ_n _ _ (Or.inr rfl) hi (by decide), Option.bind_some, g1, Option.bind_some], fun a _ => rfl, fun j _ => rfl, fun i q1 q2 => absurd q2 (by omega)⟩
    · rw [if_neg (show ¬ (1233 : Int32) ≤ nI k from nI_ge (b := 1233) (by omega) (by omega)), ldA_n _ (by omega) (by decide), Option.bind_some, i_1233, pk_mul, nI_add, stA_n _ _ _ (by omega) (by decide), Option.bind_some, nI_1, Option.bind_some]
      obtain ⟨M', e1, e2, e3, e4⟩ := ih (k + 1) (by omega) (by omega) (us M 202 (1233 * i + k) (M 201 k))
      refine ⟨M', ?_, fun a ha => by rw [e2 a ha, us_ne _ _ _ ha], fun j hj => ?_, fun j q1 q2 => ?_⟩
      · rw [e1, us_ne _ _ _ (by decide)]
      · rw [e3 j (by omega), us_app, if_neg (by omega)]
      · by_cases hik : j = k
        · subst hik
          rw [e3 _ (by omega), us_app, if_pos ⟨rfl, rfl⟩]
        · rw [e4 j (by omega) q2, us_ne _ _ _ (by decide)]
theorem m_back_l {i : Nat} (hi : i < 2) : ∀ n k, k ≤ 1233 → 1233 - k < n → ∀ (M : Mem), ∃ M', gX8_back_25 n (nI i) (nI k) M = some (M' 201 0, M') ∧ (∀ a, a ≠ 201 → M' a = M a) ∧ (∀ x, x < k → M' 201 x = M 201 x) ∧ ∀ j, k ≤ j → j < 1233 → M' 201 j = M 202 (1233 * i + j) := by
  intro n
  induction n with
  | zero => intro k _ h2; omega
  | succ n ih =>
    intro k h1 h2 M
    rw [gX8_back_25]
    by_cases hk : 1233 ≤ k
    · have g1 : ldA 1233 (M 201) 0 = some (M 201 0) := ldA_n (j := 0) _ (by decide) (by decide)
      exact ⟨M, by rw [if_pos (show (1233 : Int32) ≤ nI k from nI_le (a := 1233) hk (by omega)), g1, Option.bind_some], fun a _ => rfl, fun j _ => rfl, fun i q1 q2 => absurd q2 (by omega)⟩
    · rw [if_neg (show ¬ (1233 : Int32) ≤ nI k from nI_ge (b := 1233) (by omega) (by omega)), i_1233, pk_mul, nI_add, ldA_n _ (by omega) (by decide), Option.bind_some, stA_n _ _ _ (by omega) (by decide), Option.bind_some, nI_1, Option.bind_some]
      obtain ⟨M', e1, e2, e3, e4⟩ := ih (k + 1) (by omega) (by omega) (us M 201 k (M 202 (1233 * i + k)))
      refine ⟨M', e1, fun a ha => by rw [e2 a ha, us_ne _ _ _ ha], fun j hj => ?_, fun j q1 q2 => ?_⟩
      · rw [e3 j (by omega), us_app, if_neg (by omega)]
      · by_cases hik : j = k
        · subst hik
          rw [e3 _ (by omega), us_app, if_pos ⟨rfl, rfl⟩]
        · rw [e4 j (by omega) q2, us_ne _ _ _ (by decide)]
theorem sim_keep : Sim_keep II := by
  intro MC TC MM TM hI a1
  obtain ⟨rfl, A, hW, hC, hM⟩ := hI
  obtain ⟨σ, hs, ht⟩ := id hC.2.2.1
  have hpe := hW.2.1.1
  have hlg := hW.2.1.2.2.1
  rcases wi a1 1 (by decide) with ⟨i, hi, rfl, k1, k2⟩ | ⟨k1, k2⟩
  · replace k1 : gX7_within (nI i) 0 1 = some 1 := k1
    replace k2 : gX8_in (nI i) 0 1 = some 1 := k2
    have hi2 : i < 2 := by omega
    obtain ⟨τ, hp, hx⟩ := hC.2.2.2.1.2.2 i hi2
    have c1 : ldR 7 2 (MC 65) (nI i) = some (nI (66 + 57 * i)) := ldR_n _ hi2 (by decide) (hC.2.2.2.1.1 i hi2) (by omega) (kk_im hi2)
    obtain ⟨N1, e1, e2, e3, e4⟩ := c_tcopy (t := 66 + 57 * i) (u := 8) hpe hlg (kk_im hi2) kk_8 (Or.inr (by omega)) hW.2.2.1 hp hs ht
    obtain ⟨N2, f1, f2, f3, f4⟩ := m_keep_l hi2 FU 0 (by omega) (by unfold FU; omega) MM
    have f1' : gX8_keep_13 FU (nI i) 0 MM = some (MM 201 0, us N2 203 i 1) := by rw [i_0]; exact f1
    refine ⟨(MC 9 4, us N1 180 i 1), (MM 201 0, us N2 203 i 1), ?_, ?_, ?_, rfl, (A.1, A.2.1, A.2.2.1, (fun k => if k = i then true else (aI A).1 k, fun k => if k = i then aT A else (aI A).2 k), A.2.2.2.2), ⟨hW.1, hW.2.1, hW.2.2.1, fun k hk hq => ?_, hW.2.2.2.2⟩, hC.setI hW ⟨fun k hk => ?_, fun k hk => ?_, fun k hk => ?_⟩ ?_, hM.setI ⟨fun k hk => ?_, fun k hk hq => ?_⟩ ?_⟩
    · simp only [gX7_keep, k1, c1, Option.bind_some, nI_clamp (show 66 + 57 * i < 2 ^ 31 by omega), e1, stZ_n N1 180 (x := 1) (Or.inr rfl) hi2 (by decide)]
      rw [if_neg (by decide), us_ne _ _ _ (by decide), e4 9 (by omega)]
    · simp only [gX8_keep, k2, obs, f1']
      rw [if_neg (by decide)]
    · show MC 9 4 = MM 201 0
      exact ht.2.1.1.trans hM.2.2.1.2.1.1.symm
    · show WfM (tP (aW A)) (tL (aW A)) (if k = i then aT A else (aI A).2 k)
      have hq : (if k = i then true else (aI A).1 k) = true := hq
      by_cases hki : k = i
      · rw [if_pos hki]; exact hW.2.2.1
      · rw [if_neg hki] at hq ⊢; exact hW.2.2.2.1 k hk hq
    · dsimp only; rw [us_ne _ _ _ (by decide), e4 65 (by omega)]; exact hC.2.2.2.1.1 k hk
    · show us N1 180 i 1 180 k = bZ (if k = i then true else (aI A).1 k)
      rw [us_app]
      by_cases hki : k = i
      · rw [if_pos ⟨rfl, hki⟩, if_pos hki]; rfl
      · rw [if_neg (fun z => hki z.2), if_neg hki, e4 180 (by omega)]; exact hC.2.2.2.1.2.1 k hk
    · show ∃ ρ, Prm (us N1 180 i 1) (66 + 57 * k) ρ ∧ ((if k = i then true else (aI A).1 k) = true → TmC (us N1 180 i 1) (66 + 57 * k) (tP (aW A)) (if k = i then aT A else (aI A).2 k) ρ)
      by_cases hki : k = i
      · subst hki
        rw [if_pos rfl, if_pos rfl]
        exact ⟨τ, e2.cg (us_ne _ _ _ (by omega)), fun _ => e3.cg hW.2.2.1.1 e2 (fun a z1 z2 => us_ne _ _ _ (by omega))⟩
      · rw [if_neg hki, if_neg hki]
        obtain ⟨ρ, r1, r2⟩ := hC.2.2.2.1.2.2 k hk
        exact ⟨ρ, r1.cg (by rw [us_ne _ _ _ (by omega), e4 _ (by omega)]), fun hq => (r2 hq).cg (hW.2.2.2.1 k hk hq).1 r1 (fun a z1 z2 => by rw [us_ne _ _ _ (by omega), e4 a (by omega)])⟩
    · intro a ha; dsimp only; rw [us_ne _ _ _ (by omega), e4 a (by omega)]
    · show us N2 203 i 1 203 k = bZ (if k = i then true else (aI A).1 k)
      rw [us_app]
      by_cases hki : k = i
      · rw [if_pos ⟨rfl, hki⟩, if_pos hki]; rfl
      · rw [if_neg (fun z => hki z.2), if_neg hki, f2 203 (by decide)]; exact hM.2.2.2.1.1 k hk
    · show TmM (us N2 203 i 1 202) (1233 * k) (tP (aW A)) (if k = i then aT A else (aI A).2 k)
      have hq : (if k = i then true else (aI A).1 k) = true := hq
      rw [us_ne _ _ _ (by decide)]
      by_cases hki : k = i
      · subst hki
        rw [if_pos rfl]
        exact hM.2.2.1.cg hpe hlg hW.2.2.1 (fun j hj => by rw [f4 j (by omega) hj, Nat.zero_add])
      · rw [if_neg hki] at hq ⊢
        exact (hM.2.2.2.1.2 k hk hq).cg hpe hlg (hW.2.2.2.1 k hk hq) (fun j hj => f3 _ (by omega))
    · intro a ha hb; dsimp only; rw [us_ne _ _ _ hb, f2 a ha]
  · replace k1 : gX7_within a1 0 1 = some 0 := k1
    replace k2 : gX8_in a1 0 1 = some 0 := k2
    refine ⟨(-1, MC), (-1, MM), ?_, ?_, rfl, rfl, A, hW, hC, hM⟩
    · simp only [gX7_keep, k1, obs]; rw [if_pos trivial]
    · simp only [gX8_keep, k2, obs]; rw [if_pos trivial]
theorem sim_back : Sim_back II := by
  intro MC TC MM TM hI a1
  obtain ⟨rfl, A, hW, hC, hM⟩ := hI
  obtain ⟨σ, hs, ht⟩ := id hC.2.2.1
  have hpe := hW.2.1.1
  have hlg := hW.2.1.2.2.1
  rcases wi a1 1 (by decide) with ⟨i, hi, rfl, k1, k2⟩ | ⟨k1, k2⟩
  · replace k1 : gX7_within (nI i) 0 1 = some 1 := k1
    replace k2 : gX8_in (nI i) 0 1 = some 1 := k2
    have hi2 : i < 2 := by omega
    obtain ⟨τ, hp, hx⟩ := hC.2.2.2.1.2.2 i hi2
    have c1 : ldR 7 2 (MC 65) (nI i) = some (nI (66 + 57 * i)) := ldR_n _ hi2 (by decide) (hC.2.2.2.1.1 i hi2) (by omega) (kk_im hi2)
    have c2 : ldA 2 (MC 180) (nI i) = some (bZ ((aI A).1 i)) := by rw [ldA_n _ hi2 (by decide), hC.2.2.2.1.2.1 i hi2]
    have c3 : ldA 2 (MM 203) (nI i) = some (bZ ((aI A).1 i)) := by rw [ldA_n _ hi2 (by decide), hM.2.2.2.1.1 i hi2]
    by_cases hk : (aI A).1 i = true
    · have hWi := hW.2.2.2.1 i hi2 hk
      have hz : ¬ bZ ((aI A).1 i) = 0 := by rw [hk]; decide
      obtain ⟨N1, e1, e2, e3, e4⟩ := c_tcopy (t := 8) (u := 66 + 57 * i) hpe hlg kk_8 (kk_im hi2) (Or.inl (by omega)) hWi hs hp (hx hk)
      obtain ⟨N2, f1, f2, f3, f4⟩ := m_back_l hi2 FU 0 (by omega) (by unfold FU; omega) MM
      have f1' : gX8_back_25 FU (nI i) 0 MM = some (N2 201 0, N2) := by rw [i_0]; exact f1
      have hT2 : TmM (N2 201) 0 (tP (aW A)) ((aI A).2 i) := (hM.2.2.2.1.2 i hi2 hk).cg hpe hlg hWi (fun j hj => by rw [Nat.zero_add, f4 j (by omega) hj])
      refine ⟨(N1 9 4, N1), (N2 201 0, N2), ?_, ?_, ?_, rfl, _, wf_setT hW hWi, hC.setT hW ⟨σ, e2, e3⟩ (fun a ha => e4 a (by omega)), hM.setT hT2 (fun a ha => f2 a ha)⟩
      · simp only [gX7_back, k1, c1, c2, obs, nI_clamp (show 66 + 57 * i < 2 ^ 31 by omega), e1]
        rw [if_neg (by decide), if_neg hz]
      · simp only [gX8_back, k2, c3, obs, f1']
        rw [if_neg (by decide), if_neg hz]
      · show N1 9 4 = N2 201 0
        exact e3.2.1.1.trans hT2.2.1.1.symm
    · have hz : bZ ((aI A).1 i) = 0 := by rw [Bool.not_eq_true] at hk; rw [hk]; decide
      refine ⟨(-2, MC), (-2, MM), ?_, ?_, rfl, rfl, A, hW, hC, hM⟩
      · simp only [gX7_back, k1, c2, obs]; rw [if_neg (by decide), if_pos hz]
      · simp only [gX8_back, k2, c3, obs]; rw [if_neg (by decide), if_pos hz]
  · replace k1 : gX7_within a1 0 1 = some 0 := k1
    replace k2 : gX8_in a1 0 1 = some 0 := k2
    refine ⟨(-1, MC), (-1, MM), ?_, ?_, rfl, rfl, A, hW, hC, hM⟩
    · simp only [gX7_back, k1, obs]; rw [if_pos trivial]
    · simp only [gX8_back, k2, obs]; rw [if_pos trivial]
