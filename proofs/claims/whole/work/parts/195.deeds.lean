theorem obs {α β : Type} (a : α) (f : α → Option β) : (some a).bind f = f a := Eq.trans (Option.bind_some a f) rfl
theorem tc_setB {M M' : Mem} {pe : Nat} {X : Tms} {B : Blk} {σ : Nat → Nat} (hk : mK X ≤ 10) (hP : Prm M 8 σ) (hT : TmC M 8 pe X σ) (hB : MoC M' 9 pe B) (hq : ∀ a, a < 9 ∨ 14 ≤ a → M' a = M a) : Prm M' 8 σ ∧ TmC M' 8 pe (mK X, B, mP X) σ := by
  refine ⟨hP.cg (hq _ (by decide)), ?_, hB, fun i hi => ?_⟩
  · rw [hq 8 (by decide)]; exact hT.1
  · have hi : i < mK X := hi
    exact (hT.2.2 i hi).cg (fun a q1 q2 => hq a (by omega))
theorem tm_setB {f f' : Nat → Int32} {pe lg : Nat} {X : Tms} {B : Blk} (hpe : pe ≤ 5) (hlg : lg ≤ 12) (hW : WfM pe lg X) (hT : TmM f 0 pe X) (hB : MoM f' 0 pe B) (hq : ∀ j, 112 ≤ j → f' j = f j) : TmM f' 0 pe (mK X, B, mP X) := by
  refine ⟨?_, hB, fun i hi => ?_⟩
  · rw [hq _ (by omega)]; exact hT.1
  · have hi : i < mK X := hi
    exact (hT.2.2 i hi).eq hpe (fun p hp => by have := (hW.2.2 i hi).2.2.1 p hp; show bS (mP X i) p ≤ 12; omega) (fun j q1 q2 => hq j (by omega))
theorem wf_setT {A : St} {X : Tms} (hW : Wf A) (h : WfM (tP (aW A)) (tL (aW A)) X) : Wf (A.1, A.2.1, X, A.2.2.2) := ⟨hW.1, hW.2.1, h, hW.2.2.2⟩
theorem wfm_setB {pe lg : Nat} {X : Tms} {B : Blk} (hW : WfM pe lg X) (h : WfB pe lg B) : WfM pe lg (mK X, B, mP X) := ⟨hW.1, h, hW.2.2⟩
/-- what both sides have behind 'remember': the same, with one deed more -/
theorem both_rem {A : St} {MC MM : Mem} (hW : Wf A) (hC : RC A MC) (hM : RM A MM) : ∃ MC' MM' σ, gX5_remember 8 MC = some MC' ∧ gX8_remembers MM = some MM' ∧ WfM (tP (aW A)) (tL (aW A)) (remT (aT A)) ∧ Prm MC' 8 σ ∧ TmC MC' 8 (tP (aW A)) (remT (aT A)) σ ∧ TmM (MM' 201) 0 (tP (aW A)) (remT (aT A)) ∧ (∀ a, a < 8 ∨ 65 ≤ a → MC' a = MC a) ∧ ∀ a, a ≠ 201 → MM' a = MM a := by
  obtain ⟨σ, hs, ht⟩ := hC.2.2.1
  obtain ⟨M1, σ1, e1, e2, e3, e4⟩ := c_rem hW.2.1.1 hW.2.1.2.2.1 kk_8 hW.2.2.1 hs ht
  obtain ⟨M2, f1, f2, f3⟩ := m_rem hW.2.1.1 hW.2.1.2.2.1 hW.2.2.1 hM.2.2.1
  exact ⟨M1, M2, σ1, e1, f1, remT_W hW.2.2.1, e2, e3, f2, e4, f3⟩
theorem sim_changes : Sim_changes II := by
  intro MC TC MM TM hI a1
  obtain ⟨rfl, A, hW, hC, hM⟩ := hI
  obtain ⟨σ, hs, ht⟩ := id hC.2.2.1
  have hWB := hW.2.2.1.2.1
  have e1 : MC 9 5 = nI (bC (mB (aT A))) := ht.2.1.2.1
  have e2 : ldA 1233 (MM 201) 1 = some (nI (bC (mB (aT A)))) := by rw [i_1, ldA_n _ (by decide) (by decide)]; exact congrArg some hM.2.2.1.2.1.2.1
  have hc4 := hWB.2.1
  rcases isJr a1 with ⟨j, hj, rfl, k1, k2⟩ | ⟨k1, k2⟩
  · by_cases hq : bC (mB (aT A)) = j
    · refine ⟨(-2, MC), (-2, MM), ?_, ?_, rfl, rfl, A, hW, hC, hM⟩
      · simp only [gX7_changes, k1, Option.bind_some, e1, hq]; rfl
      · simp only [gX8_changes, k2, Option.bind_some, e2, hq]; rfl
    · have hne : ¬ nI (bC (mB (aT A))) = nI j := fun q => hq (nI_inj (by omega) (by omega) q)
      obtain ⟨M1, M2, σ1, g1, g2, hW1, hP1, hT1, hT2, q1, q2⟩ := both_rem hW hC hM
      have hB1 := hT1.2.1
      have hB2 := hT2.2.1
      rw [remT_B] at hB1 hB2
      have hs1 : stA 1233 M2 201 1 (nI j) = some (us M2 201 1 (nI j)) := stA_n M2 201 (nI j) (j := 1) (by decide) (by decide)
      refine ⟨(nI (bC (mB (aT A))), us M1 9 5 (nI j)), (nI (bC (mB (aT A))), us M2 201 1 (nI j)), ?_, ?_, rfl, rfl, _, wf_setT hW (wfm_setB hW1 (B := (bD (mB (aT A)), j, (mB (aT A)).2.2)) ⟨hWB.1, hj, hWB.2.2⟩), hC.setT hW ⟨σ1, tc_setB hW1.1 hP1 hT1 ⟨?_, ?_, fun p hp => ?_, fun p hp => ?_, fun p hp k hk => ?_, fun j hj t ht => ?_⟩ ?_⟩ ?_, hM.setT (tm_setB hW.2.1.1 hW.2.1.2.2.1 hW1 hT2 ⟨?_, ?_, fun p hp => ?_, fun p hp => ?_, fun p hp k hk => ?_, fun j hj t ht => ?_⟩ ?_) ?_⟩
      · simp only [gX7_changes, k1, Option.bind_some, e1, g1]
        rw [if_neg (by decide), if_neg hne]
      · simp only [gX8_changes, k2, Option.bind_some, e2, g2, hs1]
        rw [if_neg (by decide), if_neg hne]
      · simp only [us_app]; exact hB1.1
      · simp only [us_app]; rfl
      · simp only [us_app]; exact hB1.2.2.1 p hp
      · simp only [us_app]; exact hB1.2.2.2.1 p hp
      · simp only [us_app]; exact hB1.2.2.2.2.1 p hp k hk
      · simp only [us_app]; exact hB1.2.2.2.2.2 j hj t ht
      · intro a ha; dsimp only; rw [us_ne _ _ _ (by omega)]
      · intro a ha; dsimp only; rw [us_ne _ _ _ (by omega), q1 a ha]
      · simp only [us_app]; exact hB2.1
      · simp only [us_app]; rfl
      · simp only [us_app]; rw [if_neg (by omega)]; exact hB2.2.2.1 p hp
      · simp only [us_app]; rw [if_neg (by omega)]; exact hB2.2.2.2.1 p hp
      · simp only [us_app]; rw [if_neg (by omega)]; exact hB2.2.2.2.2.1 p hp k hk
      · simp only [us_app]; rw [if_neg (by omega)]; exact hB2.2.2.2.2.2 j hj t ht
      · intro i hi; dsimp only; rw [us_app, if_neg (by omega)]
      · intro a ha; dsimp only; rw [us_ne _ _ _ ha, q2 a ha]
  · refine ⟨(-1, MC), (-1, MM), ?_, ?_, rfl, rfl, A, hW, hC, hM⟩
    · simp only [gX7_changes, k1, Option.bind_some]; rfl
    · simp only [gX8_changes, k2, Option.bind_some]; rfl
theorem mi_eq {m t : Nat} (hm : m ≤ 10) (ht : t < 10) : mi m = nI t ↔ m = t + 1 := by
  unfold mi
  by_cases h : m = 0
  · rw [if_pos h]
    constructor
    · intro e
      have : (nI t).toInt = (t : Int) := nI_toInt (by omega)
      rw [← e] at this
      have h2 : (-9 : Int32).toInt = -9 := by decide
      omega
    · omega
  · rw [if_neg h]
    constructor
    · intro e
      have := nI_inj (by omega) (by omega) e
      omega
    · intro e
      rw [e, Nat.add_sub_cancel]
theorem sim_minds : Sim_minds II := by
  intro MC TC MM TM hI a1 a2
  obtain ⟨rfl, A, hW, hC, hM⟩ := hI
  obtain ⟨σ, hs, ht⟩ := id hC.2.2.1
  have hWB := hW.2.2.1.2.1
  have hpe := hW.2.1.1
  rcases isOn a1 (by omega) hC.2.1.1 hM.2.1.1 with ⟨p0, hp0, rfl, k1, k2⟩ | ⟨k1, k2⟩
  · rcases isTh a2 with ⟨t, ht2, rfl, k3, k4⟩ | ⟨k3, k4⟩
    · have s4 : ldA 5 (MC 11) (nI p0) = some (mi (bM (mB (aT A)) p0)) := by rw [ldA_n _ (by omega) (by decide)]; exact congrArg some (ht.2.1.2.2.2.1 p0 hp0)
      have r4 : ldA 1233 (MM 201) (67 + nI p0) = some (mi (bM (mB (aT A)) p0)) := by
        have e := hM.2.2.1.2.1.2.2.2.1 p0 hp0
        rw [Nat.zero_add] at e
        rw [i_67, nI_add, ldA_n _ (by omega) (by decide), e]
      have hm := hWB.2.2.2.1 p0 hp0
      by_cases hq : bM (mB (aT A)) p0 = t + 1
      · have he := (mi_eq hm ht2).mpr hq
        refine ⟨(-2, MC), (-2, MM), ?_, ?_, rfl, rfl, A, hW, hC, hM⟩
        · simp only [gX7_minds, k1, k3, Option.bind_some, s4, he]; rfl
        · simp only [gX8_minds, k2, k4, Option.bind_some, r4, he]; rfl
      · have hne : ¬ mi (bM (mB (aT A)) p0) = nI t := fun q => hq ((mi_eq hm ht2).mp q)
        obtain ⟨M1, M2, σ1, g1, g2, hW1, hP1, hT1, hT2, q1, q2⟩ := both_rem hW hC hM
        have hB1 := hT1.2.1
        have hB2 := hT2.2.1
        rw [remT_B] at hB1 hB2
        have hs0 : stA 5 M1 11 (nI p0) (nI t) = some (us M1 11 p0 (nI t)) := stA_n _ _ _ (by omega) (by decide)
        have hs1 : stA 1233 M2 201 (67 + nI p0) (nI t) = some (us M2 201 (67 + p0) (nI t)) := by rw [i_67, nI_add]; exact stA_n _ _ _ (by omega) (by decide)
        refine ⟨(mi (bM (mB (aT A)) p0), us M1 11 p0 (nI t)), (mi (bM (mB (aT A)) p0), us M2 201 (67 + p0) (nI t)), ?_, ?_, rfl, rfl, _, wf_setT hW (wfm_setB hW1 (B := (bD (mB (aT A)), bC (mB (aT A)), bS (mB (aT A)), (fun p => if p = p0 then t + 1 else bM (mB (aT A)) p), (mB (aT A)).2.2.2.2)) ⟨hWB.1, hWB.2.1, hWB.2.2.1, fun p hp => ?_, hWB.2.2.2.2⟩), hC.setT hW ⟨σ1, tc_setB hW1.1 hP1 hT1 ⟨?_, ?_, fun p hp => ?_, fun p hp => ?_, fun p hp k hk => ?_, fun j hj t ht => ?_⟩ ?_⟩ ?_, hM.setT (tm_setB hW.2.1.1 hW.2.1.2.2.1 hW1 hT2 ⟨?_, ?_, fun p hp => ?_, fun p hp => ?_, fun p hp k hk => ?_, fun j hj t ht => ?_⟩ ?_) ?_⟩
        · simp only [gX7_minds, k1, k3, Option.bind_some, s4, g1, hs0]
          rw [if_neg (by decide), if_neg (by decide), if_neg hne]
        · simp only [gX8_minds, k2, k4, Option.bind_some, r4, g2, hs1]
          rw [if_neg (by decide), if_neg (by decide), if_neg hne]
        · show (if p = p0 then t + 1 else bM (mB (aT A)) p) ≤ 10
          split
          · omega
          · exact hWB.2.2.2.1 p hp
        · simp only [us_app]; exact hB1.1
        · simp only [us_app]; exact hB1.2.1
        · simp only [us_app]; exact hB1.2.2.1 p hp
        · show us M1 11 p0 (nI t) 11 p = mi (if p = p0 then t + 1 else bM (mB (aT A)) p)
          rw [us_app]
          by_cases hp2 : p = p0
          · rw [if_pos ⟨rfl, hp2⟩, if_pos hp2]; rfl
          · rw [if_neg (fun q => hp2 q.2), if_neg hp2]; exact hB1.2.2.2.1 p hp
        · simp only [us_app]; exact hB1.2.2.2.2.1 p hp k hk
        · simp only [us_app]; exact hB1.2.2.2.2.2 j hj t ht
        · intro a ha; dsimp only; rw [us_ne _ _ _ (by omega)]
        · intro a ha; dsimp only; rw [us_ne _ _ _ (by omega), q1 a ha]
        · simp only [us_app]; rw [if_neg (by omega)]; exact hB2.1
        · simp only [us_app]; rw [if_neg (by omega)]; exact hB2.2.1
        · simp only [us_app]; rw [if_neg (by omega)]; exact hB2.2.2.1 p hp
        · show us M2 201 (67 + p0) (nI t) 201 (0 + (67 + p)) = mi (if p = p0 then t + 1 else bM (mB (aT A)) p)
          rw [us_app]
          by_cases hp2 : p = p0
          · rw [if_pos ⟨rfl, by omega⟩, if_pos hp2]; rfl
          · rw [if_neg (by omega), if_neg hp2]; exact hB2.2.2.2.1 p hp
        · simp only [us_app]
          have h12 := hWB.2.2.1 p hp
          have hl12 := hW.2.1.2.2.1
          have hk : k < bS (mB (aT A)) p := hk
          rw [if_neg (by omega)]; exact hB2.2.2.2.2.1 p hp k hk
        · simp only [us_app]; rw [if_neg (by omega)]; exact hB2.2.2.2.2.2 j hj t ht
        · intro i hi; dsimp only; rw [us_app, if_neg (by omega)]
        · intro a ha; dsimp only; rw [us_ne _ _ _ ha, q2 a ha]
    · refine ⟨(-1, MC), (-1, MM), ?_, ?_, rfl, rfl, A, hW, hC, hM⟩
      · simp only [gX7_minds, k1, k3, Option.bind_some]; rfl
      · simp only [gX8_minds, k2, k4, Option.bind_some]; rfl
  · refine ⟨(-1, MC), (-1, MM), ?_, ?_, rfl, rfl, A, hW, hC, hM⟩
    · simp only [gX7_minds, k1, Option.bind_some]; rfl
    · simp only [gX8_minds, k2, Option.bind_some]; rfl
-- empties
theorem c_pour_l {o j : Nat} (hj : j < 4) : ∀ n i, i ≤ 10 → 10 - i < n → ∀ (M : Mem), ∃ M', gX1_pourOut_2 o n (nI j) (nI i) M = some M' ∧ (∀ a, a ≠ o + 4 → M' a = M a) ∧ (∀ x, (x < 10 * j + i ∨ 10 * j + 10 ≤ x) → M' (o + 4) x = M (o + 4) x) ∧ ∀ t, i ≤ t → t < 10 → M' (o + 4) (10 * j + t) = 0 := by
  intro n
  induction n with
  | zero => intro i _ h2; omega
  | succ n ih =>
    intro i h1 h2 M
    rw [gX1_pourOut_2]
    by_cases hi : 10 ≤ i
    · exact ⟨M, by rw [if_pos (show (10 : Int32) ≤ nI i from nI_le (a := 10) hi (by omega))], fun a _ => rfl, fun x _ => rfl, fun t q1 q2 => absurd q2 (by omega)⟩
    · rw [if_neg (show ¬ (10 : Int32) ≤ nI i from nI_ge (b := 10) (by omega) (by omega)), i_10, pk_mul, nI_add, stA_n _ _ _ (by omega) (by decide), Option.bind_some, nI_1, Option.bind_some, show j * 10 + i = 10 * j + i by omega]
      obtain ⟨M', e1, e2, e3, e4⟩ := ih (i + 1) (by omega) (by omega) (us M (o + 4) (10 * j + i) 0)
      refine ⟨M', e1, fun a ha => by rw [e2 a ha, us_ne _ _ _ ha], fun x hx => ?_, fun t q1 q2 => ?_⟩
      · rw [e3 x (by omega), us_app, if_neg (by omega)]
      · by_cases ht : t = i
        · subst ht; rw [e3 _ (by omega), us_app, if_pos ⟨rfl, rfl⟩]
        · exact e4 t (by omega) q2
theorem m_empt_l {j : Nat} {x2 : Int32} (hj : j < 4) : ∀ n i, i ≤ 10 → 10 - i < n → ∀ (M : Mem), ∃ M', gX8_empties_28 n (nI j) x2 (nI i) M = some (x2, M') ∧ (∀ a, a ≠ 201 → M' a = M a) ∧ (∀ x, (x < 72 + 10 * j + i ∨ 72 + 10 * j + 10 ≤ x) → M' 201 x = M 201 x) ∧ ∀ t, i ≤ t → t < 10 → M' 201 (72 + 10 * j + t) = 0 := by
  intro n
  induction n with
  | zero => intro i _ h2; omega
  | succ n ih =>
    intro i h1 h2 M
    rw [gX8_empties_28]
    by_cases hi : 10 ≤ i
    · exact ⟨M, by rw [if_pos (show (10 : Int32) ≤ nI i from nI_le (a := 10) hi (by omega))], fun a _ => rfl, fun x _ => rfl, fun t q1 q2 => absurd q2 (by omega)⟩
    · rw [if_neg (show ¬ (10 : Int32) ≤ nI i from nI_ge (b := 10) (by omega) (by omega)), i_10, i_72, pk_mul, nI_add, nI_add, stA_n _ _ _ (by omega) (by decide), Option.bind_some, nI_1, Option.bind_some]
      obtain ⟨M', e1, e2, e3, e4⟩ := ih (i + 1) (by omega) (by omega) (us M 201 (72 + 10 * j + i) 0)
      refine ⟨M', e1, fun a ha => by rw [e2 a ha, us_ne _ _ _ ha], fun x hx => ?_, fun t q1 q2 => ?_⟩
      · rw [e3 x (by omega), us_app, if_neg (by omega)]
      · by_cases ht : t = i
        · subst ht; rw [e3 _ (by omega), us_app, if_pos ⟨rfl, rfl⟩]
        · exact e4 t (by omega) q2
theorem sim_empties : Sim_empties II := by
  intro MC TC MM TM hI a1
  obtain ⟨rfl, A, hW, hC, hM⟩ := hI
  obtain ⟨σ, hs, ht⟩ := id hC.2.2.1
  have hWB := hW.2.2.1.2.1
  rcases isJr a1 with ⟨j, hj, rfl, k1, k2⟩ | ⟨k1, k2⟩
  · have s1 := c_sweptInto hWB ht.2.1 hj
    have r1 := m_inJar hM.2.2.1.2.1 hj
    have hb := smN_le (f := bJ (mB (aT A)) j) (c := 99) 10 (fun k hk => hWB.2.2.2.2.2 j hj k hk)
    by_cases hq : smN (bJ (mB (aT A)) j) 10 = 0
    · refine ⟨(-2, MC), (-2, MM), ?_, ?_, rfl, rfl, A, hW, hC, hM⟩
      · simp only [gX7_empties, k1, obs, show gX1_sweptInto 9 (nI j) MC = some _ from s1, hq]
        rw [if_neg (by decide), if_pos (show nI 0 = (0 : Int32) from rfl)]
      · simp only [gX8_empties, k2, obs, r1, hq]
        rw [if_neg (by decide), if_pos (show nI 0 = (0 : Int32) from rfl)]
    · have hne : ¬ nI (smN (bJ (mB (aT A)) j) 10) = 0 := nI_ne0 (by omega) (by omega)
      obtain ⟨M1, M2, σ1, g1, g2, hW1, hP1, hT1, hT2, q1, q2⟩ := both_rem hW hC hM
      have hB1 := hT1.2.1
      have hB2 := hT2.2.1
      rw [remT_B] at hB1 hB2
      obtain ⟨N1, a1, a2, a3, a4⟩ := c_pour_l (o := 9) hj FU 0 (by omega) (by unfold FU; omega) M1
      obtain ⟨N2, b1, b2, b3, b4⟩ := m_empt_l (x2 := nI (smN (bJ (mB (aT A)) j) 10)) hj FU 0 (by omega) (by unfold FU; omega) M2
      have b1' : gX8_empties_28 FU (nI j) (nI (smN (bJ (mB (aT A)) j) 10)) 0 M2 = some (nI (smN (bJ (mB (aT A)) j) 10), N2) := by rw [i_0]; exact b1
      refine ⟨(nI (smN (bJ (mB (aT A)) j) 10), N1), (nI (smN (bJ (mB (aT A)) j) 10), N2), ?_, ?_, rfl, rfl, _, wf_setT hW (wfm_setB hW1 (B := (bD (mB (aT A)), bC (mB (aT A)), bS (mB (aT A)), bM (mB (aT A)), bH (mB (aT A)), (fun i t => if i = j then 0 else bJ (mB (aT A)) i t))) ⟨hWB.1, hWB.2.1, hWB.2.2.1, hWB.2.2.2.1, hWB.2.2.2.2.1, fun i hi t ht => ?_⟩), hC.setT hW ⟨σ1, tc_setB hW1.1 hP1 hT1 ⟨?_, ?_, fun p hp => ?_, fun p hp => ?_, fun p hp k hk => ?_, fun i hi t ht => ?_⟩ ?_⟩ ?_, hM.setT (tm_setB hW.2.1.1 hW.2.1.2.2.1 hW1 hT2 ⟨?_, ?_, fun p hp => ?_, fun p hp => ?_, fun p hp k hk => ?_, fun i hi t ht => ?_⟩ ?_) ?_⟩
      · simp only [gX7_empties, k1, obs, show gX1_sweptInto 9 (nI j) MC = some _ from s1, g1, gX1_pourOut, show gX1_pourOut_2 9 FU (nI j) 0 M1 = some N1 from a1]
        rw [if_neg (by decide), if_neg hne]
      · simp only [gX8_empties, k2, obs, r1, g2, b1']
        rw [if_neg (by decide), if_neg hne]
      · show (if i = j then 0 else bJ (mB (aT A)) i t) ≤ 99
        split
        · omega
        · exact hWB.2.2.2.2.2 i hi t ht
      · dsimp only; rw [a2 9 (by decide)]; exact hB1.1
      · dsimp only; rw [a2 9 (by decide)]; exact hB1.2.1
      · dsimp only; rw [a2 (9 + 1) (by decide)]; exact hB1.2.2.1 p hp
      · dsimp only; rw [a2 (9 + 2) (by decide)]; exact hB1.2.2.2.1 p hp
      · dsimp only; rw [a2 (9 + 3) (by decide)]; exact hB1.2.2.2.2.1 p hp k hk
      · show N1 (9 + 4) (10 * i + t) = nI (if i = j then 0 else bJ (mB (aT A)) i t)
        by_cases hij : i = j
        · subst hij; rw [if_pos rfl, a4 t (by omega) ht]; rfl
        · rw [if_neg hij, a3 _ (by omega)]; exact hB1.2.2.2.2.2 i hi t ht
      · intro a ha; dsimp only; rw [a2 a (by omega)]
      · intro a ha; dsimp only; rw [a2 a (by omega), q1 a ha]
      · dsimp only; rw [b3 _ (by omega)]; exact hB2.1
      · dsimp only; rw [b3 _ (by omega)]; exact hB2.2.1
      · have hpe := hW.2.1.1; dsimp only; rw [b3 _ (by omega)]; exact hB2.2.2.1 p hp
      · have hpe := hW.2.1.1; dsimp only; rw [b3 _ (by omega)]; exact hB2.2.2.2.1 p hp
      · have hpe := hW.2.1.1
        have h12 := hWB.2.2.1 p hp
        have hl12 := hW.2.1.2.2.1
        have hk : k < bS (mB (aT A)) p := hk
        dsimp only; rw [b3 _ (by omega)]; exact hB2.2.2.2.2.1 p hp k hk
      · show N2 201 (0 + (72 + 10 * i + t)) = nI (if i = j then 0 else bJ (mB (aT A)) i t)
        by_cases hij : i = j
        · subst hij; rw [if_pos rfl, Nat.zero_add, b4 t (by omega) ht]; rfl
        · rw [if_neg hij, b3 _ (by omega)]; exact hB2.2.2.2.2.2 i hi t ht
      · intro i hi; dsimp only; rw [b3 _ (by omega)]
      · intro a ha; dsimp only; rw [b2 a ha, q2 a ha]
  · refine ⟨(-1, MC), (-1, MM), ?_, ?_, rfl, rfl, A, hW, hC, hM⟩
    · simp only [gX7_empties, k1, obs]; rw [if_pos trivial]
    · simp only [gX8_empties, k2, obs]; rw [if_pos trivial]
-- undo
theorem m_undo_l {pl : Nat} (hpl : 113 ≤ pl) (hpl2 : pl + 112 ≤ 1233) : ∀ n k, k ≤ 112 → 112 - k < n → ∀ (M : Mem), ∃ M', gX8_undo_40 n (nI pl) (nI k) M = some (M 201 112, M') ∧ (∀ a, a ≠ 201 → M' a = M a) ∧ (∀ j, (j < k ∨ 112 ≤ j) → M' 201 j = M 201 j) ∧ ∀ i, k ≤ i → i < 112 → M' 201 i = M 201 (pl + i) := by
  intro n
  induction n with
  | zero => intro k _ h2; omega
  | succ n ih =>
    intro k h1 h2 M
    rw [gX8_undo_40]
    by_cases hk : 112 ≤ k
    · refine ⟨M, ?_, fun a _ => rfl, fun j _ => rfl, fun i q1 q2 => absurd q2 (by omega)⟩
      have g1 : ldA 1233 (M 201) 112 = some (M 201 112) := ldA_n (j := 112) _ (by decide) (by decide)
      rw [if_pos (show (112 : Int32) ≤ nI k from nI_le (a := 112) hk (by omega)), g1, Option.bind_some]
    · rw [if_neg (show ¬ (112 : Int32) ≤ nI k from nI_ge (b := 112) (by omega) (by omega)), nI_add, ldA_n _ (by omega) (by decide), Option.bind_some, stA_n _ _ _ (by omega) (by decide), Option.bind_some, nI_1, Option.bind_some]
      obtain ⟨M', e1, e2, e3, e4⟩ := ih (k + 1) (by omega) (by omega) (us M 201 k (M 201 (pl + k)))
      refine ⟨M', ?_, fun a ha => by rw [e2 a ha, us_ne _ _ _ ha], fun j hj => ?_, fun i q1 q2 => ?_⟩
      · rw [e1, us_app, if_neg (by omega)]
      · rw [e3 j (by omega), us_app, if_neg (by omega)]
      · by_cases hik : i = k
        · subst hik
          rw [e3 i (by omega), us_app, if_pos ⟨rfl, rfl⟩]
        · rw [e4 i (by omega) q2, us_app, if_neg (by omega)]
theorem sim_undo : Sim_undo II := by
  intro MC TC MM TM hI
  obtain ⟨rfl, A, hW, hC, hM⟩ := hI
  obtain ⟨σ, hs, ht⟩ := id hC.2.2.1
  have hpe := hW.2.1.1
  have hlg := hW.2.1.2.2.1
  have hk10 := hW.2.2.1.1
  have hK : MM 201 112 = nI (mK (aT A)) := by have := hM.2.2.1.1; rwa [Nat.zero_add] at this
  have g1 : ldA 1233 (MM 201) 112 = some (nI (mK (aT A))) := by rw [i_112, ldA_n _ (by decide) (by decide), hK]
  by_cases h0 : mK (aT A) = 0
  · refine ⟨(-2, MC), (-2, MM), ?_, ?_, rfl, rfl, A, hW, hC, hM⟩
    · simp only [gX7_undo, ht.1, h0]; rw [if_pos (show nI 0 = (0 : Int32) from rfl)]
    · simp only [gX8_undo, g1, obs, h0]; rw [if_pos (show nI 0 = (0 : Int32) from rfl)]
  · have hWi := hW.2.2.1.2.2 (mK (aT A) - 1) (by omega)
    have hσ := (hs.1 (mK (aT A) - 1) (by omega)).1
    have hk3 : (kd (8 + 7 + 5 * σ (mK (aT A) - 1))).1 = 3 := kt_X5 kk_8 hσ
    obtain ⟨N1, e1, e2, e3⟩ := c_copy (M := us MC 8 2 (nI (mK (aT A) - 1))) (o0 := 9) (o1 := 8 + 7 + 5 * σ (mK (aT A) - 1)) (Or.inl (by omega))
    obtain ⟨N2, f1, f2, f3, f4⟩ := m_undo_l (pl := 113 + 112 * (mK (aT A) - 1)) (by omega) (by omega) FU 0 (by omega) (by unfold FU; omega) (us MM 201 112 (nI (mK (aT A) - 1)))
    have hS : ∀ p, p < tP (aW A) → bS (mP (aT A) (mK (aT A) - 1)) p ≤ 12 := fun p hp => by have := hWi.2.2.1 p hp; omega
    have u1 : MoC (us MC 8 2 (nI (mK (aT A) - 1))) (8 + 7 + 5 * σ (mK (aT A) - 1)) (tP (aW A)) (mP (aT A) (mK (aT A) - 1)) := (ht.2.2 _ (by omega)).cg (fun a q1 q2 => us_ne _ _ _ (by omega))
    have c1 : ldR 3 10 (us MC 8 2 (nI (mK (aT A) - 1)) 14) (nI (mK (aT A) - 1)) = some (nI (8 + 7 + 5 * σ (mK (aT A) - 1))) := ldR_n _ (by omega) (by decide) (by rw [us_ne _ _ _ (by decide)]; exact (hs.1 _ (by omega)).2) (by omega) hk3
    have d1 : ldA 1233 (us MM 201 112 (nI (mK (aT A) - 1)) 201) 112 = some (nI (mK (aT A) - 1)) := by rw [i_112, ldA_n _ (by decide) (by decide), us_app, if_pos ⟨rfl, rfl⟩]
    have d2 : ∀ x, stA 1233 MM 201 112 x = some (us MM 201 112 x) := fun x => stA_n MM 201 x (j := 112) (by decide) (by decide)
    refine ⟨(nI (mK (aT A) - 1), N1), (nI (mK (aT A) - 1), N2), ?_, ?_, rfl, rfl, (A.1, A.2.1, (mK (aT A) - 1, mP (aT A) (mK (aT A) - 1), mP (aT A)), A.2.2.2), wf_setT hW ⟨by show mK (aT A) - 1 ≤ 10; omega, hWi, fun i hi => hW.2.2.1.2.2 i (by have : i < mK (aT A) - 1 := hi; omega)⟩, hC.setT hW ⟨σ, hs.cg ?_, ?_, ?_, fun i hi => ?_⟩ ?_, hM.setT ⟨?_, ?_, fun i hi => ?_⟩ ?_⟩
    · simp only [gX7_undo, gX5_goBack, ht.1]
      rw [if_neg (show ¬ nI (mK (aT A)) = 0 from nI_ne0 (by omega) (by omega)), if_neg (nI_nle (by omega) (by omega)), i_1, pk_sub (by omega), Option.bind_some, show us MC 8 2 (nI (mK (aT A) - 1)) 8 2 = nI (mK (aT A) - 1) by rw [us_app, if_pos ⟨rfl, rfl⟩], show (8 + 6) = 14 from rfl, c1, Option.bind_some, nI_clamp (by omega), show (8 + 1) = 9 from rfl, e1, Option.bind_some, Option.bind_some, e3 8 (by omega), us_app, if_pos ⟨rfl, rfl⟩]
    · simp only [gX8_undo, g1, obs]
      rw [if_neg (show ¬ nI (mK (aT A)) = 0 from nI_ne0 (by omega) (by omega)), i_1, pk_sub (by omega), d2, Option.bind_some, d1, Option.bind_some, i_112, i_113, pk_mul, nI_add, i_0, f1, us_app, if_pos ⟨rfl, rfl⟩]
    · dsimp only; rw [e3 _ (by omega), us_ne _ _ _ (by decide)]
    · dsimp only; rw [e3 8 (by omega), us_app, if_pos ⟨rfl, rfl⟩]; rfl
    · exact e2 _ _ hpe hS u1
    · have hi : i < mK (aT A) - 1 := hi
      exact (ht.2.2 i (by omega)).cg (fun a q1 q2 => by dsimp only; rw [e3 a (by omega), us_ne _ _ _ (by omega)])
    · intro a ha; dsimp only; rw [e3 a (by omega), us_ne _ _ _ (by omega)]
    · dsimp only; rw [f3 _ (by omega), us_app, if_pos ⟨rfl, rfl⟩]; rfl
    · refine (hM.2.2.1.2.2 (mK (aT A) - 1) (by omega)).cg hpe hS (fun i hi => ?_)
      dsimp only; rw [Nat.zero_add, f4 i (by omega) hi, us_app, if_neg (by omega), Nat.zero_add]
    · have hi : i < mK (aT A) - 1 := hi
      refine (hM.2.2.1.2.2 i (by omega)).eq hpe (fun p hp => by have := (hW.2.2.1.2.2 i (by omega)).2.2.1 p hp; show bS (mP (aT A) i) p ≤ 12; omega) (fun j q1 q2 => ?_)
      dsimp only; rw [f3 j (by omega), us_app, if_neg (by omega)]
    · intro a ha; dsimp only; rw [f2 a ha, us_ne _ _ _ ha]
