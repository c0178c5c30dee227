theorem nlt_i {a b : Nat} (ha : a < 2147483648) (hb : b < 2147483648) : (nI a < nI b) = (a < b) := propext (nI_ltI ha hb)
theorem nle_i {a b : Nat} (ha : a < 2147483648) (hb : b < 2147483648) : (nI a ≤ nI b) = (a ≤ b) := propext (nI_leI ha hb)
theorem neq_i {a b : Nat} (ha : a < 2147483648) (hb : b < 2147483648) : (nI a = nI b) = (a = b) := propext (nI_eq ha hb)
theorem TxC.cg {M M' : Mem} {x : Nat × (Nat → Nat)} (h : TxC M x) (h1 : M' 2 = M 2) (h2 : M' 3 = M 3) : TxC M' x := ⟨by rw [h1]; exact h.1, fun i hi => by rw [h2]; exact h.2 i hi⟩
theorem ToC.cg {M M' : Mem} {W : Twn} (h : ToC M W) (hq : ∀ a, 191 ≤ a → a < 195 → M' a = M a) : ToC M' W := ⟨by rw [hq 191 (by decide) (by decide)]; exact h.1, by rw [hq 191 (by decide) (by decide)]; exact h.2.1, fun p hp => by rw [hq 192 (by decide) (by decide)]; exact h.2.2.1 p hp, fun p hp => by rw [hq 193 (by decide) (by decide)]; exact h.2.2.2.1 p hp, fun p hp k hk => by rw [hq 194 (by decide) (by decide)]; exact h.2.2.2.2 p hp k hk⟩
theorem SeC.cg {M M' : Mem} {x : Nat × (Nat → Nat)} (h : SeC M x) (h1 : M' 181 3 = M 181 3) (h2 : M' 182 = M 182) : SeC M' x := ⟨by rw [h1]; exact h.1, fun i hi => by rw [h2]; exact h.2 i hi⟩
theorem HeC.cg {M M' : Mem} {x : Nat × (Nat → Nat) × (Nat → Nat)} (h : HeC M x) (h1 : M' 181 4 = M 181 4) (h2 : M' 183 = M 183) (h3 : M' 184 = M 184) : HeC M' x := ⟨by rw [h1]; exact h.1, fun i hi => by rw [h2]; exact h.2.1 i hi, fun i hi => by rw [h3]; exact h.2.2 i hi⟩
theorem SrC.cg {M M' : Mem} (h : SrC M) (h1 : M' 185 3 = M 185 3) (h2 : M' 185 4 = M 185 4) : SrC M' := by
  unfold SrC at h ⊢
  rw [h1, h2]
  exact h
theorem TmC8 {M M' : Mem} {pe lg : Nat} {X : Tms} (hW : WfM pe lg X) (h : ∃ σ, Prm M 8 σ ∧ TmC M 8 pe X σ) (hq : ∀ a, 8 ≤ a → a < 65 → M' a = M a) : ∃ σ, Prm M' 8 σ ∧ TmC M' 8 pe X σ := by
  obtain ⟨σ, h1, h2⟩ := h
  exact ⟨σ, h1.cg (hq _ (by omega) (by omega)), h2.cg hW.1 h1 (fun a q1 q2 => hq a q1 (by omega))⟩
theorem TxM.cg {M M' : Mem} {x : Nat × (Nat → Nat)} (h : TxM M x) (h1 : M' 197 14 = M 197 14) (h2 : M' 206 = M 206) : TxM M' x := ⟨by rw [h1]; exact h.1, fun i hi => by rw [h2]; exact h.2 i hi⟩
theorem ToM.cg {M M' : Mem} {W : Twn} (h : ToM M W) (h1 : M' 197 0 = M 197 0) (h2 : M' 197 4 = M 197 4) (hq : ∀ a, 198 ≤ a → a < 201 → M' a = M a) : ToM M' W := ⟨by rw [h1]; exact h.1, by rw [h2]; exact h.2.1, fun p hp => by rw [hq 198 (by decide) (by decide)]; exact h.2.2.1 p hp, fun p hp => by rw [hq 199 (by decide) (by decide)]; exact h.2.2.2.1 p hp, fun p hp k hk => by rw [hq 200 (by decide) (by decide)]; exact h.2.2.2.2 p hp k hk⟩
theorem SeM.cg {M M' : Mem} {x : Nat × (Nat → Nat)} (h : SeM M x) (h1 : M' 197 8 = M 197 8) (h2 : M' 204 = M 204) : SeM M' x := ⟨by rw [h1]; exact h.1, fun i hi => by rw [h2]; exact h.2 i hi⟩
theorem HeM.cg {M M' : Mem} {x : Nat × (Nat → Nat) × (Nat → Nat)} (h : HeM M x) (h1 : M' 197 10 = M 197 10) (h2 : M' 205 = M 205) : HeM M' x := ⟨by rw [h1]; exact h.1, fun i hi => by rw [h2]; exact h.2.1 i hi, fun i hi => by rw [h2]; exact h.2.2 i hi⟩
theorem ImM.cg {M M' : Mem} {pe : Nat} {x : (Nat → Bool) × (Nat → Tms)} (h : ImM M pe x) (h1 : M' 203 = M 203) (h2 : M' 202 = M 202) : ImM M' pe x := ⟨fun i hi => by rw [h1]; exact h.1 i hi, fun i hi hx => by rw [h2]; exact h.2 i hi hx⟩
/-- scratch cells alone were changed -/
theorem RC.cg {A : St} {M M' : Mem} (hW : Wf A) (h : RC A M) (h1 : M' 2 = M 2) (h2 : M' 3 = M 3) (hq : ∀ a, 8 ≤ a → a < 185 → M' a = M a) (h3 : M' 185 3 = M 185 3) (h4 : M' 185 4 = M 185 4) (ht : ∀ a, 191 ≤ a → a < 195 → M' a = M a) : RC A M' := by
  obtain ⟨c1, c2, c3, c4, c5, c6, c7⟩ := h
  exact ⟨c1.cg h1 h2, c2.cg ht, TmC8 hW.2.2.1 c3 (fun a q1 q2 => hq a q1 (by omega)), c4.cg hW.2.2.2.1 (hq _ (by decide) (by decide)) (hq _ (by decide) (by decide)) (fun a q1 q2 => hq a (by omega) (by omega)), c5.cg (by rw [hq 181 (by decide) (by decide)]) (hq _ (by decide) (by decide)), c6.cg (by rw [hq 181 (by decide) (by decide)]) (hq _ (by decide) (by decide)) (hq _ (by decide) (by decide)), c7.cg h3 h4⟩
theorem RM.cg {A : St} {M M' : Mem} (h : RM A M) (h0 : ∀ i, i = 0 ∨ i = 4 ∨ i = 8 ∨ i = 10 ∨ i = 14 → M' 197 i = M 197 i) (hq : ∀ a, 198 ≤ a → a < 207 → M' a = M a) : RM A M' := by
  obtain ⟨c1, c2, c3, c4, c5, c6⟩ := h
  exact ⟨c1.cg (h0 14 (by decide)) (hq _ (by decide) (by decide)), c2.cg (h0 0 (by decide)) (h0 4 (by decide)) (fun a q1 q2 => hq a q1 (by omega)), by rw [hq 201 (by decide) (by decide)]; exact c3, c4.cg (hq _ (by decide) (by decide)) (hq _ (by decide) (by decide)), c5.cg (h0 8 (by decide)) (hq _ (by decide) (by decide)), c6.cg (h0 10 (by decide)) (hq _ (by decide) (by decide))⟩
theorem RC.setX {A : St} {M M' : Mem} {x : Nat × (Nat → Nat)} (hW : Wf A) (h : RC A M) (hx : TxC M' x) (hq : ∀ a, a ≠ 2 → a ≠ 3 → M' a = M a) : RC (x, A.2) M' := by
  obtain ⟨c1, c2, c3, c4, c5, c6, c7⟩ := h
  exact ⟨hx, c2.cg (fun a q1 q2 => hq a (by omega) (by omega)), TmC8 hW.2.2.1 c3 (fun a q1 q2 => hq a (by omega) (by omega)), c4.cg hW.2.2.2.1 (hq _ (by decide) (by decide)) (hq _ (by decide) (by decide)) (fun a q1 q2 => hq a (by omega) (by omega)), c5.cg (by rw [hq 181 (by decide) (by decide)]) (hq _ (by decide) (by decide)), c6.cg (by rw [hq 181 (by decide) (by decide)]) (hq _ (by decide) (by decide)) (hq _ (by decide) (by decide)), c7.cg (by rw [hq 185 (by decide) (by decide)]) (by rw [hq 185 (by decide) (by decide)])⟩
theorem RC.setT {A : St} {M M' : Mem} {X : Tms} (hW : Wf A) (h : RC A M) (hx : ∃ σ, Prm M' 8 σ ∧ TmC M' 8 (tP (aW A)) X σ) (hq : ∀ a, a < 8 ∨ 65 ≤ a → M' a = M a) : RC (A.1, A.2.1, X, A.2.2.2) M' := by
  obtain ⟨c1, c2, c3, c4, c5, c6, c7⟩ := h
  exact ⟨c1.cg (hq _ (by decide)) (hq _ (by decide)), c2.cg (fun a q1 q2 => hq a (by omega)), hx, c4.cg hW.2.2.2.1 (hq _ (by decide)) (hq _ (by decide)) (fun a q1 q2 => hq a (by omega)), c5.cg (by rw [hq 181 (by decide)]) (hq _ (by decide)), c6.cg (by rw [hq 181 (by decide)]) (hq _ (by decide)) (hq _ (by decide)), c7.cg (by rw [hq 185 (by decide)]) (by rw [hq 185 (by decide)])⟩
theorem RC.setSH {A : St} {M M' : Mem} {x : Nat × (Nat → Nat)} {y : Nat × (Nat → Nat) × (Nat → Nat)} (hW : Wf A) (h : RC A M) (hx : SeC M' x) (hy : HeC M' y) (hq : ∀ a, a < 181 ∨ 185 ≤ a → M' a = M a) : RC (A.1, A.2.1, A.2.2.1, A.2.2.2.1, x, y) M' := by
  obtain ⟨c1, c2, c3, c4, c5, c6, c7⟩ := h
  exact ⟨c1.cg (hq _ (by decide)) (hq _ (by decide)), c2.cg (fun a q1 q2 => hq a (by omega)), TmC8 hW.2.2.1 c3 (fun a q1 q2 => hq a (by omega)), c4.cg hW.2.2.2.1 (hq _ (by decide)) (hq _ (by decide)) (fun a q1 q2 => hq a (by omega)), hx, hy, c7.cg (by rw [hq 185 (by decide)]) (by rw [hq 185 (by decide)])⟩
theorem RM.setX {A : St} {M M' : Mem} {x : Nat × (Nat → Nat)} (h : RM A M) (hx : TxM M' x) (h0 : ∀ i, i ≠ 14 → M' 197 i = M 197 i) (hq : ∀ a, a ≠ 197 → a ≠ 206 → M' a = M a) : RM (x, A.2) M' := by
  obtain ⟨c1, c2, c3, c4, c5, c6⟩ := h
  exact ⟨hx, c2.cg (h0 _ (by decide)) (h0 _ (by decide)) (fun a q1 q2 => hq a (by omega) (by omega)), by rw [hq 201 (by decide) (by decide)]; exact c3, c4.cg (hq _ (by decide) (by decide)) (hq _ (by decide) (by decide)), c5.cg (h0 _ (by decide)) (hq _ (by decide) (by decide)), c6.cg (h0 _ (by decide)) (hq _ (by decide) (by decide))⟩
theorem RM.setT {A : St} {M M' : Mem} {X : Tms} (h : RM A M) (hx : TmM (M' 201) 0 (tP (aW A)) X) (hq : ∀ a, a ≠ 201 → M' a = M a) : RM (A.1, A.2.1, X, A.2.2.2) M' := by
  obtain ⟨c1, c2, c3, c4, c5, c6⟩ := h
  exact ⟨c1.cg (by rw [hq 197 (by decide)]) (hq _ (by decide)), c2.cg (by rw [hq 197 (by decide)]) (by rw [hq 197 (by decide)]) (fun a q1 q2 => hq a (by omega)), hx, c4.cg (hq _ (by decide)) (hq _ (by decide)), c5.cg (by rw [hq 197 (by decide)]) (hq _ (by decide)), c6.cg (by rw [hq 197 (by decide)]) (hq _ (by decide))⟩
theorem RM.setSH {A : St} {M M' : Mem} {x : Nat × (Nat → Nat)} {y : Nat × (Nat → Nat) × (Nat → Nat)} (h : RM A M) (hx : SeM M' x) (hy : HeM M' y) (h0 : ∀ i, i ≠ 8 → i ≠ 10 → M' 197 i = M 197 i) (hq : ∀ a, a ≠ 197 → a ≠ 204 → a ≠ 205 → M' a = M a) : RM (A.1, A.2.1, A.2.2.1, A.2.2.2.1, x, y) M' := by
  obtain ⟨c1, c2, c3, c4, c5, c6⟩ := h
  exact ⟨c1.cg (h0 _ (by decide) (by decide)) (hq _ (by decide) (by decide) (by decide)), c2.cg (h0 _ (by decide) (by decide)) (h0 _ (by decide) (by decide)) (fun a q1 q2 => hq a (by omega) (by omega) (by omega)), by rw [hq 201 (by decide) (by decide) (by decide)]; exact c3, c4.cg (hq _ (by decide) (by decide) (by decide)) (hq _ (by decide) (by decide) (by decide)), hx, hy⟩
-- type, clear
theorem sim_type : Sim_type II := by
  intro MC TC MM TM hI a1
  obtain ⟨rfl, A, hW, hC, hM⟩ := hI
  have h1 := hC.1.1
  have h2 := hM.1.1
  have hb := hW.1.1
  rcases wi a1 255 (by decide) with ⟨p, hp, rfl, k1, k2⟩ | ⟨k1, k2⟩
  · replace k1 : gX7_within (nI p) 0 255 = some 1 := k1
    replace k2 : gX8_in (nI p) 0 255 = some 1 := k2
    by_cases hf : (aX A).1 = 120
    · refine ⟨(-3, MC), (-3, MM), ?_, ?_, rfl, rfl, A, hW, hC, hM⟩
      · simp only [gX7_type, k1, Option.bind_some, h1, hf, i_120]
        simp
      · simp only [gX8_type, k2, Option.bind_some, h2, hf, i_120]
        simp
    · have hlt : (aX A).1 < 120 := by omega
      refine ⟨(nI ((aX A).1 + 1), us (us MC 3 (aX A).1 (nI p)) 2 1 (nI ((aX A).1 + 1))), (nI ((aX A).1 + 1), us (us MM 206 (aX A).1 (nI p)) 197 14 (nI ((aX A).1 + 1))), ?_, ?_, rfl, rfl, (((aX A).1 + 1, fun i => if i = (aX A).1 then p else (aX A).2 i), A.2), ?_, hC.setX hW ⟨?_, ?_⟩ ?_, hM.setX ⟨?_, ?_⟩ ?_ ?_⟩
      · have e1 : (nI (aX A).1 < 120) = True := by rw [i_120, nlt_i (by omega) (by omega)]; simp [hlt]
        simp only [gX7_type, k1, Option.bind_some, h1, e1, stA_n MC 3 (nI p) hlt (by decide)]
        simp [us_app, h1, nI_1]
      · have e1 : (nI (aX A).1 = 120) = False := by rw [i_120, neq_i (by omega) (by omega)]; simp [hf]
        simp only [gX8_type, k2, Option.bind_some, h2, e1, stA_n MM 206 (nI p) hlt (by decide)]
        simp [us_app, h2, nI_1]
      · refine ⟨⟨?_, ?_⟩, hW.2⟩
        · show (aX A).1 + 1 ≤ 120; omega
        · intro i hi
          show (if i = (aX A).1 then p else (aX A).2 i) < 256
          split
          · omega
          · exact hW.1.2 i (by have : i < (aX A).1 + 1 := hi; omega)
      · simp [us_app]
      · intro i hi
        have hi : i < (aX A).1 + 1 := hi
        simp only [us_app]
        by_cases hq : i = (aX A).1
        · simp [hq]
        · simp [hq]; exact hC.1.2 i (by omega)
      · intro a q1 q2; dsimp only; rw [us_ne _ _ _ q1, us_ne _ _ _ q2]
      · simp [us_app]
      · intro i hi
        have hi : i < (aX A).1 + 1 := hi
        simp only [us_app]
        by_cases hq : i = (aX A).1
        · simp [hq]
        · simp [hq]; exact hM.1.2 i (by omega)
      · intro i hi; simp [us_app, hi]
      · intro a q1 q2; dsimp only; rw [us_ne _ _ _ q1, us_ne _ _ _ q2]
  · replace k1 : gX7_within a1 0 255 = some 0 := k1
    replace k2 : gX8_in a1 0 255 = some 0 := k2
    refine ⟨(-1, MC), (-1, MM), ?_, ?_, rfl, rfl, A, hW, hC, hM⟩
    · simp only [gX7_type, k1, Option.bind_some]; rfl
    · simp only [gX8_type, k2, Option.bind_some]; rfl
theorem sim_clear : Sim_clear II := by
  intro MC TC MM TM hI
  obtain ⟨rfl, A, hW, hC, hM⟩ := hI
  refine ⟨(nI (aX A).1, us MC 2 1 0), (nI (aX A).1, us MM 197 14 0), ?_, ?_, rfl, rfl, ((0, (aX A).2), A.2), ⟨⟨Nat.zero_le _, fun i hi => absurd hi (Nat.not_lt_zero i)⟩, hW.2⟩, hC.setX hW ⟨?_, fun i hi => absurd hi (Nat.not_lt_zero i)⟩ ?_, hM.setX ⟨?_, fun i hi => absurd hi (Nat.not_lt_zero i)⟩ ?_ ?_⟩
  · simp only [gX7_clear, Option.bind_some, hC.1.1]
  · simp only [gX8_clear, Option.bind_some, hM.1.1]
  · simp [us_app, i_0]
  · intro a q1 q2; dsimp only; rw [us_ne _ _ _ q1]
  · simp [us_app, i_0]
  · intro i hi; simp [us_app, hi]
  · intro a q1 q2; dsimp only; rw [us_ne _ _ _ q1]
theorem sim_trace : Sim_trace II := by
  intro MC TC MM TM hI
  obtain ⟨rfl, A, hW, hC, hM⟩ := hI
  exact ⟨TC, TC, rfl, rfl, rfl, rfl, A, hW, hC, hM⟩
theorem ro {o1 o2 : Option Int32} {P : Prop} (h : o1 = o2) (hs : ∃ r, o2 = some r) (hP : P) : ∃ (u v : Int32), o1 = some u ∧ o2 = some v ∧ u = v ∧ P := by
  obtain ⟨r, hr⟩ := hs
  exact ⟨r, r, h.trans hr, hr, rfl, hP⟩
theorem sim_count : Sim_count II := by
  intro MC TC MM TM hI a1
  obtain ⟨rfl, A, hW, hC, hM⟩ := hI
  have s1 : ldA 1233 (MM 201) 112 = some (nI (mK (aT A))) := by
    rw [i_112, ldA_n _ (by decide) (by decide)]
    have := hM.2.2.1.1
    rw [Nat.zero_add] at this
    rw [this]
  obtain ⟨σ, hs, ht⟩ := id hC.2.2.1
  refine ro ?_ ?_ ⟨rfl, A, hW, hC, hM⟩
  · simp only [gX7_count, gX8_count, s1, Option.bind_some, hC.2.1.1, hM.2.1.1, hC.2.1.2.1, hM.2.1.2.1, hC.2.2.2.2.1.1, hM.2.2.2.2.1.1, hC.2.2.2.2.2.1.1, hM.2.2.2.2.2.1, ht.1, hC.1.1, hM.1.1]
  · simp only [gX8_count, s1, Option.bind_some]
    repeat' split
    all_goals exact ⟨_, rfl⟩
-- saw, hears, forget
theorem sim_saw : Sim_saw II := by
  intro MC TC MM TM hI a1
  obtain ⟨rfl, A, hW, hC, hM⟩ := hI
  have h1 := hC.2.2.2.2.1.1
  have h2 := hM.2.2.2.2.1.1
  have hb := hW.2.2.2.2.1.1
  rcases isTh a1 with ⟨p, hp, rfl, k1, k2⟩ | ⟨k1, k2⟩
  · by_cases hf : (aS A).1 = 4
    · refine ⟨(-3, MC), (-3, MM), ?_, ?_, rfl, rfl, A, hW, hC, hM⟩
      · simp only [gX7_saw, k1, Option.bind_some, h1, hf, i_4]
        simp
      · simp only [gX8_saw, k2, Option.bind_some, h2, hf, i_4]
        simp
    · have hlt : (aS A).1 < 4 := by omega
      refine ⟨(nI ((aS A).1 + 1), us (us MC 182 (aS A).1 (nI p)) 181 3 (nI ((aS A).1 + 1))), (nI ((aS A).1 + 1), us (us MM 204 (aS A).1 (nI p)) 197 8 (nI ((aS A).1 + 1))), ?_, ?_, rfl, rfl, (A.1, A.2.1, A.2.2.1, A.2.2.2.1, ((aS A).1 + 1, fun i => if i = (aS A).1 then p else (aS A).2 i), aH A), ?_, hC.setSH hW ⟨?_, ?_⟩ (hC.2.2.2.2.2.1.cg ?_ ?_ ?_) ?_, hM.setSH ⟨?_, ?_⟩ (hM.2.2.2.2.2.cg ?_ ?_) ?_ ?_⟩
      · have e1 : (nI (aS A).1 < 4) = True := by rw [i_4, nlt_i (by omega) (by omega)]; simp [hlt]
        simp only [gX7_saw, k1, Option.bind_some, h1, e1, stA_n MC 182 (nI p) hlt (by decide)]
        simp [us_app, h1, nI_1]
      · have e1 : (nI (aS A).1 = 4) = False := by rw [i_4, neq_i (by omega) (by omega)]; simp [hf]
        simp only [gX8_saw, k2, Option.bind_some, h2, e1, stA_n MM 204 (nI p) hlt (by decide)]
        simp [us_app, h2, nI_1]
      · refine ⟨hW.1, hW.2.1, hW.2.2.1, hW.2.2.2.1, ⟨?_, ?_⟩, hW.2.2.2.2.2⟩
        · show (aS A).1 + 1 ≤ 4; omega
        · intro i hi
          show (if i = (aS A).1 then p else (aS A).2 i) < 10
          split
          · omega
          · exact hW.2.2.2.2.1.2 i (by have : i < (aS A).1 + 1 := hi; omega)
      · simp [us_app]
      · intro i hi
        have hi : i < (aS A).1 + 1 := hi
        simp only [us_app]
        by_cases hq : i = (aS A).1
        · simp [hq]
        · simp [hq]; exact hC.2.2.2.2.1.2 i (by omega)
      · simp [us_app]
      · dsimp only; rw [us_ne _ _ _ (by decide), us_ne _ _ _ (by decide)]
      · dsimp only; rw [us_ne _ _ _ (by decide), us_ne _ _ _ (by decide)]
      · intro a q1; dsimp only; rw [us_ne _ _ _ (by omega), us_ne _ _ _ (by omega)]
      · simp [us_app]
      · intro i hi
        have hi : i < (aS A).1 + 1 := hi
        simp only [us_app]
        by_cases hq : i = (aS A).1
        · simp [hq]
        · simp [hq]; exact hM.2.2.2.2.1.2 i (by omega)
      · simp [us_app]
      · dsimp only; rw [us_ne _ _ _ (by decide), us_ne _ _ _ (by decide)]
      · intro i hi hi2; simp [us_app, hi]
      · intro a q1 q2 q3; dsimp only; rw [us_ne _ _ _ q1, us_ne _ _ _ q2]
  · refine ⟨(-1, MC), (-1, MM), ?_, ?_, rfl, rfl, A, hW, hC, hM⟩
    · simp only [gX7_saw, k1, Option.bind_some]; rfl
    · simp only [gX8_saw, k2, Option.bind_some]; rfl
theorem sim_hears : Sim_hears II := by
  intro MC TC MM TM hI a1 a2
  obtain ⟨rfl, A, hW, hC, hM⟩ := hI
  have h1 := hC.2.2.2.2.2.1.1
  have h2 := hM.2.2.2.2.2.1
  have hb := hW.2.2.2.2.2.1
  rcases isTh a1 with ⟨p, hp, rfl, k1, k2⟩ | ⟨k1, k2⟩
  · rcases wi a2 60 (by decide) with ⟨n, hn, rfl, k3, k4⟩ | ⟨k3, k4⟩
    · replace k3 : gX7_within (nI n) 0 60 = some 1 := k3
      replace k4 : gX8_in (nI n) 0 60 = some 1 := k4
      by_cases hf : (aH A).1 = 4
      · refine ⟨(-3, MC), (-3, MM), ?_, ?_, rfl, rfl, A, hW, hC, hM⟩
        · simp only [gX7_hears, k1, k3, Option.bind_some, h1, hf, i_4]
          simp
        · simp only [gX8_hears, k2, k4, Option.bind_some, h2, hf, i_4]
          simp
      · have hlt : (aH A).1 < 4 := by omega
        refine ⟨(nI ((aH A).1 + 1), us (us (us MC 183 (aH A).1 (nI p)) 184 (aH A).1 (nI n)) 181 4 (nI ((aH A).1 + 1))), (nI ((aH A).1 + 1), us (us (us MM 205 (2 * (aH A).1) (nI p)) 205 (2 * (aH A).1 + 1) (nI n)) 197 10 (nI ((aH A).1 + 1))), ?_, ?_, rfl, rfl, (A.1, A.2.1, A.2.2.1, A.2.2.2.1, aS A, ((aH A).1 + 1, (fun i => if i = (aH A).1 then p else (aH A).2.1 i), (fun i => if i = (aH A).1 then n else (aH A).2.2 i))), ?_, hC.setSH hW (hC.2.2.2.2.1.cg ?_ ?_) ⟨?_, ?_, ?_⟩ ?_, hM.setSH (hM.2.2.2.2.1.cg ?_ ?_) ⟨?_, ?_, ?_⟩ ?_ ?_⟩
        · have e1 : (nI (aH A).1 < 4) = True := by rw [i_4, nlt_i (by omega) (by omega)]; simp [hlt]
          have e2 : us MC 183 (aH A).1 (nI p) 181 4 = nI (aH A).1 := by rw [us_ne _ _ _ (by decide)]; exact h1
          have e3 : us (us MC 183 (aH A).1 (nI p)) 184 (aH A).1 (nI n) 181 4 = nI (aH A).1 := by rw [us_ne _ _ _ (by decide)]; exact e2
          simp only [gX7_hears, k1, k3, Option.bind_some, h1, e1, stA_n MC 183 (nI p) hlt (by decide), e2, stA_n _ 184 (nI n) hlt (by decide), e3]
          simp [us_app, nI_1]
        · have e1 : (nI (aH A).1 = 4) = False := by rw [i_4, neq_i (by omega) (by omega)]; simp [hf]
          have e0 : 2 * nI (aH A).1 = nI (2 * (aH A).1) := by rw [i_2, pk_mul]
          have e2 : us MM 205 (2 * (aH A).1) (nI p) 197 10 = nI (aH A).1 := by rw [us_ne _ _ _ (by decide)]; exact h2
          have e3 : us (us MM 205 (2 * (aH A).1) (nI p)) 205 (2 * (aH A).1 + 1) (nI n) 197 10 = nI (aH A).1 := by rw [us_ne _ _ _ (by decide)]; exact e2
          simp only [gX8_hears, k2, k4, Option.bind_some, h2, e1, e0, stA_n MM 205 (nI p) (show 2 * (aH A).1 < 8 by omega) (by decide), e2, nI_1, stA_n _ 205 (nI n) (show 2 * (aH A).1 + 1 < 8 by omega) (by decide), e3]
          simp [us_app]
        · refine ⟨hW.1, hW.2.1, hW.2.2.1, hW.2.2.2.1, hW.2.2.2.2.1, ?_, ?_, ?_⟩
          · show (aH A).1 + 1 ≤ 4; omega
          · intro i hi
            show (if i = (aH A).1 then p else (aH A).2.1 i) < 10
            split
            · omega
            · exact hW.2.2.2.2.2.2.1 i (by have : i < (aH A).1 + 1 := hi; omega)
          · intro i hi
            show (if i = (aH A).1 then n else (aH A).2.2 i) ≤ 60
            split
            · omega
            · exact hW.2.2.2.2.2.2.2 i (by have : i < (aH A).1 + 1 := hi; omega)
        · simp [us_app]
        · dsimp only; rw [us_ne _ _ _ (by decide), us_ne _ _ _ (by decide), us_ne _ _ _ (by decide)]
        · simp [us_app]
        · intro i hi
          have hi : i < (aH A).1 + 1 := hi
          simp only [us_app]
          by_cases hq : i = (aH A).1
          · simp [hq]
          · simp [hq]; exact hC.2.2.2.2.2.1.2.1 i (by omega)
        · intro i hi
          have hi : i < (aH A).1 + 1 := hi
          simp only [us_app]
          by_cases hq : i = (aH A).1
          · simp [hq]
          · simp [hq]; exact hC.2.2.2.2.2.1.2.2 i (by omega)
        · intro a q1; dsimp only; rw [us_ne _ _ _ (by omega), us_ne _ _ _ (by omega), us_ne _ _ _ (by omega)]
        · simp [us_app]
        · dsimp only; rw [us_ne _ _ _ (by decide), us_ne _ _ _ (by decide), us_ne _ _ _ (by decide)]
        · simp [us_app]
        · intro i hi
          have hi : i < (aH A).1 + 1 := hi
          simp only [us_app]
          by_cases hq : i = (aH A).1
          · subst hq; rw [if_neg (by omega), if_neg (by omega), if_pos ⟨trivial, rfl⟩, if_pos rfl]
          · rw [if_neg (by omega), if_neg (by omega), if_neg (by omega), if_neg hq]; exact hM.2.2.2.2.2.2.1 i (by omega)
        · intro i hi
          have hi : i < (aH A).1 + 1 := hi
          simp only [us_app]
          by_cases hq : i = (aH A).1
          · subst hq; rw [if_neg (by omega), if_pos ⟨trivial, rfl⟩, if_pos rfl]
          · rw [if_neg (by omega), if_neg (by omega), if_neg (by omega), if_neg hq]; exact hM.2.2.2.2.2.2.2 i (by omega)
        · intro i hi hi2; simp [us_app, hi2]
        · intro a q1 q2 q3; dsimp only; rw [us_ne _ _ _ q1, us_ne _ _ _ q3, us_ne _ _ _ q3]
    · replace k3 : gX7_within a2 0 60 = some 0 := k3
      replace k4 : gX8_in a2 0 60 = some 0 := k4
      refine ⟨(-1, MC), (-1, MM), ?_, ?_, rfl, rfl, A, hW, hC, hM⟩
      · simp only [gX7_hears, k1, k3, Option.bind_some]; rfl
      · simp only [gX8_hears, k2, k4, Option.bind_some]; rfl
  · refine ⟨(-1, MC), (-1, MM), ?_, ?_, rfl, rfl, A, hW, hC, hM⟩
    · simp only [gX7_hears, k1, Option.bind_some]; rfl
    · simp only [gX8_hears, k2, Option.bind_some]; rfl
theorem sim_forget : Sim_forget II := by
  intro MC TC MM TM hI
  obtain ⟨rfl, A, hW, hC, hM⟩ := hI
  refine ⟨(nI (aS A).1 + nI (aH A).1, us (us MC 181 3 0) 181 4 0), (nI (aS A).1 + nI (aH A).1, us (us MM 197 8 0) 197 10 0), ?_, ?_, rfl, rfl, (A.1, A.2.1, A.2.2.1, A.2.2.2.1, (0, (aS A).2), (0, (aH A).2)), ⟨hW.1, hW.2.1, hW.2.2.1, hW.2.2.2.1, ⟨Nat.zero_le _, fun i hi => absurd hi (Nat.not_lt_zero i)⟩, Nat.zero_le _, fun i hi => absurd hi (Nat.not_lt_zero i), fun i hi => absurd hi (Nat.not_lt_zero i)⟩, hC.setSH hW ⟨?_, fun i hi => absurd hi (Nat.not_lt_zero i)⟩ ⟨?_, fun i hi => absurd hi (Nat.not_lt_zero i), fun i hi => absurd hi (Nat.not_lt_zero i)⟩ ?_, hM.setSH ⟨?_, fun i hi => absurd hi (Nat.not_lt_zero i)⟩ ⟨?_, fun i hi => absurd hi (Nat.not_lt_zero i), fun i hi => absurd hi (Nat.not_lt_zero i)⟩ ?_ ?_⟩
  · simp only [gX7_forget, gX0_drop, Option.bind_some, hC.2.2.2.2.1.1, hC.2.2.2.2.2.1.1]
  · simp only [gX8_forget, Option.bind_some, hM.2.2.2.2.1.1, hM.2.2.2.2.2.1]
  · simp [us_app, i_0]
  · simp [us_app, i_0]
  · intro a q1; dsimp only; rw [us_ne _ _ _ (by omega), us_ne _ _ _ (by omega)]
  · simp [us_app, i_0]
  · simp [us_app, i_0]
  · intro i hi hi2; simp [us_app, hi, hi2]
  · intro a q1 q2 q3; dsimp only; rw [us_ne _ _ _ q1, us_ne _ _ _ q1]
