def cn (h : Nat → Nat) (t : Nat) : Nat → Nat
  | 0 => 0
  | n + 1 => cn h t n + (if h n = t then 1 else 0)
def smN (f : Nat → Nat) : Nat → Nat
  | 0 => 0
  | n + 1 => smN f n + f n
theorem cn_le (h : Nat → Nat) (t : Nat) : ∀ n, cn h t n ≤ n
  | 0 => Nat.le_refl 0
  | n + 1 => by
    have := cn_le h t n
    unfold cn
    split <;> omega
theorem smN_le {f : Nat → Nat} {c : Nat} : ∀ n, (∀ k, k < n → f k ≤ c) → smN f n ≤ c * n
  | 0, _ => by simp [smN]
  | n + 1, h => by
    have h1 := smN_le n (fun k hk => h k (by omega))
    have h2 := h n (by omega)
    rw [smN, Nat.mul_succ]
    omega
section CLASS
variable {M : Mem} {o pe lg : Nat} {B : Blk}
theorem c_size (hpe : pe ≤ 5) (h : MoC M o pe B) {p : Nat} (hp : p < pe) : ldA 5 (M (o + 1)) (nI p) = some (nI (bS B p)) := by
  rw [ldA_n _ (by omega) (by decide), h.2.2.1 p hp]
theorem c_layer (hpe : pe ≤ 5) (hlg : lg ≤ 12) (hW : WfB pe lg B) (h : MoC M o pe B) {p k : Nat} (hp : p < pe) (hk : k < bS B p) : gX1_layerAt o (nI p) (nI k) M = some (nI (bH B p k)) := by
  have := hW.2.2.1 p hp
  rw [gX1_layerAt, i_12, pk_mul, nI_add, ldA_n _ (by omega) (by decide), Option.bind_some, show p * 12 + k = 12 * p + k by omega, h.2.2.2.2.1 p hp k hk]
theorem c_swept (h : MoC M o pe B) {j t : Nat} (hj : j < 4) (ht : t < 10) : gX1_sweptOf o (nI j) (nI t) M = some (nI (bJ B j t)) := by
  rw [gX1_sweptOf, i_10, pk_mul, nI_add, ldA_n _ (by omega) (by decide), Option.bind_some, show j * 10 + t = 10 * j + t by omega, h.2.2.2.2.2 j hj t ht]
theorem c_layersOf_l (hpe : pe ≤ 5) (hlg : lg ≤ 12) (hW : WfB pe lg B) (h : MoC M o pe B) {p t : Nat} (hp : p < pe) (ht : t < 10) : ∀ n i, i ≤ bS B p → bS B p - i < n → gX1_layersOf_5 o n (nI p) (nI t) (nI (cn (bH B p) t i)) (nI i) M = some (nI (cn (bH B p) t (bS B p))) := by
  have hs := hW.2.2.1 p hp
  intro n
  induction n with
  | zero => intro i _ h2; omega
  | succ n ih =>
    intro i h1 h2
    have hc := cn_le (bH B p) t i
    rw [gX1_layersOf_5, c_size hpe h hp, Option.bind_some]
    by_cases hi : bS B p ≤ i
    · rw [if_pos (nI_le hi (by omega)), show bS B p = i by omega]
    · have hi2 : i < bS B p := by omega
      have hh := hW.2.2.2.2.1 p hp i hi2
      rw [if_neg (nI_ge hi2 (by omega)), c_layer hpe hlg hW h hp hi2, Option.bind_some]
      have e := ih (i + 1) (by omega) (by omega)
      rw [cn] at e
      by_cases hq : bH B p i = t
      · rw [if_pos (congrArg nI hq), Option.bind_some, gX1_layersOf_30, Option.bind_some, nI_1, nI_1]
        rw [if_pos hq] at e
        exact e
      · rw [if_neg (fun q => hq (nI_inj (by omega) (by omega) q)), gX1_layersOf_30, Option.bind_some, nI_1]
        rw [if_neg hq] at e
        exact e
theorem c_layersOf (hpe : pe ≤ 5) (hlg : lg ≤ 12) (hW : WfB pe lg B) (h : MoC M o pe B) {p t : Nat} (hp : p < pe) (ht : t < 10) : gX1_layersOf o (nI p) (nI t) M = some (nI (cn (bH B p) t (bS B p))) := by
  have hs := hW.2.2.1 p hp
  exact c_layersOf_l hpe hlg hW h hp ht FU 0 (by omega) (by unfold FU; omega)
theorem c_sweptInto_l (hW : WfB pe lg B) (h : MoC M o pe B) {j : Nat} (hj : j < 4) : ∀ n i, i ≤ 10 → 10 - i < n → gX1_sweptInto_4 o n (nI j) (nI (smN (bJ B j) i)) (nI i) M = some (nI (smN (bJ B j) 10)) := by
  intro n
  induction n with
  | zero => intro i _ h2; omega
  | succ n ih =>
    intro i h1 h2
    rw [gX1_sweptInto_4]
    by_cases hi : 10 ≤ i
    · rw [if_pos (show (10 : Int32) ≤ nI i from nI_le (a := 10) hi (by omega)), show i = 10 by omega]
    · rw [if_neg (show ¬ (10 : Int32) ≤ nI i from nI_ge (b := 10) (by omega) (by omega)), c_swept h hj (by omega), Option.bind_some, nI_add, Option.bind_some, nI_1, Option.bind_some]
      exact ih (i + 1) (by omega) (by omega)
theorem c_sweptInto (hW : WfB pe lg B) (h : MoC M o pe B) {j : Nat} (hj : j < 4) : gX1_sweptInto o (nI j) M = some (nI (smN (bJ B j) 10)) :=
  c_sweptInto_l hW h hj FU 0 (by omega) (by unfold FU; omega)
end CLASS
section REF
variable {M : Mem} {pe lg : Nat} {B : Blk}
theorem m_size (hpe : pe ≤ 5) (h : MoM (M 201) 0 pe B) {p : Nat} (hp : p < pe) : ldA 1233 (M 201) (2 + nI p) = some (nI (bS B p)) := by
  have := h.2.2.1 p hp
  rw [Nat.zero_add] at this
  rw [i_2, nI_add, ldA_n _ (by omega) (by decide), this]
theorem m_layer (hpe : pe ≤ 5) (hlg : lg ≤ 12) (hW : WfB pe lg B) (h : MoM (M 201) 0 pe B) {p k : Nat} (hp : p < pe) (hk : k < bS B p) : gX8_layerOf (nI p) (nI k) M = some (nI (bH B p k)) := by
  have := hW.2.2.1 p hp
  have e := h.2.2.2.2.1 p hp k hk
  rw [Nat.zero_add] at e
  rw [gX8_layerOf, i_12, i_7, pk_mul, nI_add, nI_add, ldA_n _ (by omega) (by decide), Option.bind_some, e]
theorem m_swept (h : MoM (M 201) 0 pe B) {j t : Nat} (hj : j < 4) (ht : t < 10) : ldA 1233 (M 201) ((72 + (10 * nI j)) + nI t) = some (nI (bJ B j t)) := by
  have e := h.2.2.2.2.2 j hj t ht
  rw [Nat.zero_add] at e
  rw [i_10, i_72, pk_mul, nI_add, nI_add, ldA_n _ (by omega) (by decide), e]
theorem m_layersOf_l (hpe : pe ≤ 5) (hlg : lg ≤ 12) (hW : WfB pe lg B) (h : MoM (M 201) 0 pe B) {p t : Nat} (hp : p < pe) (ht : t < 10) : ∀ n i, i ≤ bS B p → bS B p - i < n → gX8_layersOf_5 n (nI p) (nI t) (nI (cn (bH B p) t i)) (nI i) M = some (nI (cn (bH B p) t (bS B p))) := by
  have hs := hW.2.2.1 p hp
  intro n
  induction n with
  | zero => intro i _ h2; omega
  | succ n ih =>
    intro i h1 h2
    have hc := cn_le (bH B p) t i
    rw [gX8_layersOf_5, m_size hpe h hp, Option.bind_some]
    by_cases hi : bS B p ≤ i
    · rw [if_pos (nI_le hi (by omega)), show bS B p = i by omega]
    · have hi2 : i < bS B p := by omega
      have hh := hW.2.2.2.2.1 p hp i hi2
      rw [if_neg (nI_ge hi2 (by omega)), m_layer hpe hlg hW h hp hi2, Option.bind_some]
      have e := ih (i + 1) (by omega) (by omega)
      rw [cn] at e
      by_cases hq : bH B p i = t
      · rw [if_pos (congrArg nI hq), gX8_layersOf_35, Option.bind_some, Option.bind_some, nI_1, nI_1]
        rw [if_pos hq] at e
        exact e
      · rw [if_neg (fun q => hq (nI_inj (by omega) (by omega) q)), gX8_layersOf_35, Option.bind_some, Option.bind_some, nI_1, i_0, nI_add]
        rw [if_neg hq] at e
        exact e
theorem m_layersOf (hpe : pe ≤ 5) (hlg : lg ≤ 12) (hW : WfB pe lg B) (h : MoM (M 201) 0 pe B) {p t : Nat} (hp : p < pe) (ht : t < 10) : gX8_layersOf (nI p) (nI t) M = some (nI (cn (bH B p) t (bS B p))) := by
  have hs := hW.2.2.1 p hp
  exact m_layersOf_l hpe hlg hW h hp ht FU 0 (by omega) (by unfold FU; omega)
theorem m_inJar_l (h : MoM (M 201) 0 pe B) {j : Nat} (hj : j < 4) : ∀ n i, i ≤ 10 → 10 - i < n → gX8_inJar_4 n (nI j) (nI (smN (bJ B j) i)) (nI i) M = some (nI (smN (bJ B j) 10)) := by
  intro n
  induction n with
  | zero => intro i _ h2; omega
  | succ n ih =>
    intro i h1 h2
    rw [gX8_inJar_4]
    by_cases hi : 10 ≤ i
    · rw [if_pos (show (10 : Int32) ≤ nI i from nI_le (a := 10) hi (by omega)), show i = 10 by omega]
    · rw [if_neg (show ¬ (10 : Int32) ≤ nI i from nI_ge (b := 10) (by omega) (by omega)), m_swept h hj (by omega), Option.bind_some, nI_add, Option.bind_some, nI_1, Option.bind_some]
      exact ih (i + 1) (by omega) (by omega)
theorem m_inJar (h : MoM (M 201) 0 pe B) {j : Nat} (hj : j < 4) : gX8_inJar (nI j) M = some (nI (smN (bJ B j) 10)) :=
  m_inJar_l h hj FU 0 (by omega) (by unfold FU; omega)
end REF
theorem sim_jar : Sim_jar II := by
  intro MC TC MM TM hI a1 a2
  obtain ⟨rfl, A, hW, hC, hM⟩ := hI
  obtain ⟨σ, hs, ht⟩ := id hC.2.2.1
  rcases isJr a1 with ⟨j, hj, rfl, k1, k2⟩ | ⟨k1, k2⟩
  · rcases isTh a2 with ⟨t, ht2, rfl, k3, k4⟩ | ⟨k3, k4⟩
    · refine ⟨nI (bJ (mB (aT A)) j t), nI (bJ (mB (aT A)) j t), ?_, ?_, rfl, rfl, A, hW, hC, hM⟩
      · simp only [gX7_jar, k1, k3, Option.bind_some, c_swept ht.2.1 hj ht2]; rfl
      · simp only [gX8_jar, k2, k4, Option.bind_some, m_swept hM.2.2.1.2.1 hj ht2]; rfl
    · refine ⟨-1, -1, ?_, ?_, rfl, rfl, A, hW, hC, hM⟩
      · simp only [gX7_jar, k1, k3, Option.bind_some]; rfl
      · simp only [gX8_jar, k2, k4, Option.bind_some]; rfl
  · refine ⟨-1, -1, ?_, ?_, rfl, rfl, A, hW, hC, hM⟩
    · simp only [gX7_jar, k1, Option.bind_some]; rfl
    · simp only [gX8_jar, k2, Option.bind_some]; rfl
theorem sim_one : Sim_one II := by
  intro MC TC MM TM hI a1 a2
  obtain ⟨rfl, A, hW, hC, hM⟩ := hI
  obtain ⟨σ, hs, ht⟩ := id hC.2.2.1
  have hWT := hW.2.1
  have hpe := hWT.1
  have hlg := hWT.2.2.1
  have hWB := hW.2.2.1.2.1
  rcases isOn a1 (by omega) hC.2.1.1 hM.2.1.1 with ⟨p, hp, rfl, k1, k2⟩ | ⟨k1, k2⟩
  · have s1 : ldA 5 (MC 192) (nI p) = some (nI (tS (aW A) p)) := by rw [ldA_n _ (by omega) (by decide), hC.2.1.2.2.1 p hp]
    have s2 : ldA 5 (MC 193) (nI p) = some (nI (tW (aW A) p)) := by rw [ldA_n _ (by omega) (by decide), hC.2.1.2.2.2.1 p hp]
    have s3 : ldA 5 (MC 10) (nI p) = some (nI (bS (mB (aT A)) p)) := c_size (o := 9) hpe ht.2.1 hp
    have s4 : ldA 5 (MC 11) (nI p) = some (mi (bM (mB (aT A)) p)) := by rw [ldA_n _ (by omega) (by decide)]; exact congrArg some (ht.2.1.2.2.2.1 p hp)
    have s5 : gX1_layersOf 9 (nI p) (nI (tS (aW A) p)) MC = some _ := c_layersOf (o := 9) hpe hlg hWB ht.2.1 hp (hWT.2.2.2.1 p hp)
    have r1 : ldA 5 (MM 198) (nI p) = some (nI (tS (aW A) p)) := by rw [ldA_n _ (by omega) (by decide), hM.2.1.2.2.1 p hp]
    have r2 : ldA 5 (MM 199) (nI p) = some (nI (tW (aW A) p)) := by rw [ldA_n _ (by omega) (by decide), hM.2.1.2.2.2.1 p hp]
    have r3 := m_size hpe hM.2.2.1.2.1 hp
    have r4 : ldA 1233 (MM 201) (67 + nI p) = some (mi (bM (mB (aT A)) p)) := by
      have e := hM.2.2.1.2.1.2.2.2.1 p hp
      rw [Nat.zero_add] at e
      rw [i_67, nI_add, ldA_n _ (by omega) (by decide), e]
    have r5 := m_layersOf hpe hlg hWB hM.2.2.1.2.1 hp (hWT.2.2.2.1 p hp)
    refine ro ?_ ?_ ⟨rfl, A, hW, hC, hM⟩
    · simp only [gX7_one, gX8_one, k1, k2, Option.bind_some, s1, s2, s3, s4, s5, r1, r2, r3, r4, r5]
    · simp only [gX8_one, k2, Option.bind_some, r1, r2, r3, r4, r5]
      repeat' split
      all_goals exact ⟨_, rfl⟩
  · refine ⟨-1, -1, ?_, ?_, rfl, rfl, A, hW, hC, hM⟩
    · simp only [gX7_one, k1, Option.bind_some]; rfl
    · simp only [gX8_one, k2, Option.bind_some]; rfl
theorem sim_week : Sim_week II := by
  intro MC TC MM TM hI a1 a2
  obtain ⟨rfl, A, hW, hC, hM⟩ := hI
  have hWT := hW.2.1
  have hpe := hWT.1
  rcases isOn a1 (by omega) hC.2.1.1 hM.2.1.1 with ⟨p, hp, rfl, k1, k2⟩ | ⟨k1, k2⟩
  · have s2 : ldA 5 (MC 193) (nI p) = some (nI (tW (aW A) p)) := by rw [ldA_n _ (by omega) (by decide), hC.2.1.2.2.2.1 p hp]
    have r2 : ldA 5 (MM 199) (nI p) = some (nI (tW (aW A) p)) := by rw [ldA_n _ (by omega) (by decide), hM.2.1.2.2.2.1 p hp]
    have hw7 := hWT.2.2.2.2.1 p hp
    rcases wi a2 6 (by decide) with ⟨k, hk, rfl, k3, k4⟩ | ⟨k3, k4⟩
    · replace k3 : gX7_within (nI k) 0 6 = some 1 := k3
      replace k4 : gX8_in (nI k) 0 6 = some 1 := k4
      by_cases hq : tW (aW A) p ≤ k
      · have e1 : (nI (tW (aW A) p) ≤ nI k) = True := by rw [nle_i (by omega) (by omega)]; simp [hq]
        refine ⟨-9, -9, ?_, ?_, rfl, rfl, A, hW, hC, hM⟩
        · simp only [gX7_week, k1, k3, s2, Option.bind_some, e1]; rfl
        · simp only [gX8_week, k2, k4, r2, Option.bind_some, e1]; rfl
      · have e1 : (nI (tW (aW A) p) ≤ nI k) = False := by rw [nle_i (by omega) (by omega)]; simp [hq]
        have s3 : ldA 35 (MC 194) (nI p * 7 + nI k) = some (nI (tK (aW A) p k)) := by rw [i_7, pk_mul, nI_add, ldA_n _ (by omega) (by decide), show p * 7 + k = 7 * p + k by omega, hC.2.1.2.2.2.2 p hp k (by omega)]
        have r3 : ldA 35 (MM 200) (7 * nI p + nI k) = some (nI (tK (aW A) p k)) := by rw [i_7, pk_mul, nI_add, ldA_n _ (by omega) (by decide), hM.2.1.2.2.2.2 p hp k (by omega)]
        refine ⟨nI (tK (aW A) p k), nI (tK (aW A) p k), ?_, ?_, rfl, rfl, A, hW, hC, hM⟩
        · simp only [gX7_week, k1, k3, s2, s3, Option.bind_some, e1]; rfl
        · simp only [gX8_week, k2, k4, r2, r3, Option.bind_some, e1]; rfl
    · replace k3 : gX7_within a2 0 6 = some 0 := k3
      replace k4 : gX8_in a2 0 6 = some 0 := k4
      refine ⟨-1, -1, ?_, ?_, rfl, rfl, A, hW, hC, hM⟩
      · simp only [gX7_week, k1, k3, Option.bind_some]; rfl
      · simp only [gX8_week, k2, k4, Option.bind_some]; rfl
  · refine ⟨-1, -1, ?_, ?_, rfl, rfl, A, hW, hC, hM⟩
    · simp only [gX7_week, k1, Option.bind_some]; rfl
    · simp only [gX8_week, k2, Option.bind_some]; rfl
theorem sim_layer : Sim_layer II := by
  intro MC TC MM TM hI a1 a2
  obtain ⟨rfl, A, hW, hC, hM⟩ := hI
  obtain ⟨σ, hs, ht⟩ := id hC.2.2.1
  have hWT := hW.2.1
  have hpe := hWT.1
  have hlg := hWT.2.2.1
  have hWB := hW.2.2.1.2.1
  rcases isOn a1 (by omega) hC.2.1.1 hM.2.1.1 with ⟨p, hp, rfl, k1, k2⟩ | ⟨k1, k2⟩
  · have s2 : ldA 5 (MC 10) (nI p) = some (nI (bS (mB (aT A)) p)) := c_size (o := 9) hpe ht.2.1 hp
    have r2 := m_size hpe hM.2.2.1.2.1 hp
    have hsz := hWB.2.2.1 p hp
    rcases wi a2 11 (by decide) with ⟨k, hk, rfl, k3, k4⟩ | ⟨k3, k4⟩
    · replace k3 : gX7_within (nI k) 0 11 = some 1 := k3
      replace k4 : gX8_in (nI k) 0 11 = some 1 := k4
      by_cases hq : bS (mB (aT A)) p ≤ k
      · have e1 : (nI (bS (mB (aT A)) p) ≤ nI k) = True := by rw [nle_i (by omega) (by omega)]; simp [hq]
        refine ⟨-9, -9, ?_, ?_, rfl, rfl, A, hW, hC, hM⟩
        · simp only [gX7_layer, k1, k3, s2, Option.bind_some, e1]; rfl
        · simp only [gX8_layer, k2, k4, r2, Option.bind_some, e1]; rfl
      · have e1 : (nI (bS (mB (aT A)) p) ≤ nI k) = False := by rw [nle_i (by omega) (by omega)]; simp [hq]
        have s3 := c_layer (o := 9) hpe hlg hWB ht.2.1 hp (show k < bS (mB (aT A)) p by omega)
        have r3 := m_layer hpe hlg hWB hM.2.2.1.2.1 hp (show k < bS (mB (aT A)) p by omega)
        refine ⟨nI (bH (mB (aT A)) p k), nI (bH (mB (aT A)) p k), ?_, ?_, rfl, rfl, A, hW, hC, hM⟩
        · simp only [gX7_layer, k1, k3, s2, s3, Option.bind_some, e1]; rfl
        · simp only [gX8_layer, k2, k4, r2, r3, Option.bind_some, e1]; rfl
    · replace k3 : gX7_within a2 0 11 = some 0 := k3
      replace k4 : gX8_in a2 0 11 = some 0 := k4
      refine ⟨-1, -1, ?_, ?_, rfl, rfl, A, hW, hC, hM⟩
      · simp only [gX7_layer, k1, k3, Option.bind_some]; rfl
      · simp only [gX8_layer, k2, k4, Option.bind_some]; rfl
  · refine ⟨-1, -1, ?_, ?_, rfl, rfl, A, hW, hC, hM⟩
    · simp only [gX7_layer, k1, Option.bind_some]; rfl
    · simp only [gX8_layer, k2, Option.bind_some]; rfl
