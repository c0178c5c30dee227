def loseB (B : Blk) (p n : Nat) : Blk := (bD B, bC B, (fun q => if q = p then bS B p - n else bS B q), bM B, (fun q k => if q = p then bH B p (k + n) else bH B q k), bJ B)
def setJ (B : Blk) (J : Nat → Nat → Nat) : Blk := (bD B, bC B, bS B, bM B, bH B, J)
def setM (B : Blk) (p m : Nat) : Blk := (bD B, bC B, bS B, (fun q => if q = p then m else bM B q), bH B, bJ B)
def appB (B : Blk) (p t : Nat) : Blk := (bD B, bC B, (fun q => if q = p then bS B p + 1 else bS B q), bM B, (fun q k => if q = p ∧ k = bS B p then t else bH B q k), bJ B)
def setD (B : Blk) (d : Nat) : Blk := (d, bC B, bS B, bM B, bH B, bJ B)
theorem c_drop_l {o p n s : Nat} (hp : p < 5) (hs : s + n ≤ 12) : ∀ fu k, k ≤ s → s - k < fu → ∀ (M : Mem), M (o + 1) p = nI s → ∃ M', gX1_dropTips_18 o fu (nI p) (nI n) (nI (p * 12)) (nI k) M = some M' ∧ (∀ a, a ≠ o + 3 → M' a = M a) ∧ (∀ x, (x < 12 * p + k ∨ 12 * p + s ≤ x) → M' (o + 3) x = M (o + 3) x) ∧ ∀ i, k ≤ i → i < s → M' (o + 3) (12 * p + i) = M (o + 3) (12 * p + (i + n)) := by
  intro fu
  induction fu with
  | zero => intro k _ h2; omega
  | succ fu ih =>
    intro k h1 h2 M hM
    rw [gX1_dropTips_18, ldA_n _ hp (by decide), Option.bind_some, hM]
    by_cases hk : s ≤ k
    · exact ⟨M, by rw [if_pos (nI_le hk (by omega))], fun a _ => rfl, fun x _ => rfl, fun i q1 q2 => absurd q2 (by omega)⟩
    · rw [if_neg (nI_ge (by omega) (by omega)), nI_add, nI_add, ldA_n _ (by omega) (by decide), Option.bind_some, nI_add, stA_n _ _ _ (by omega) (by decide), Option.bind_some, nI_1, Option.bind_some]
      obtain ⟨M', e1, e2, e3, e4⟩ := ih (k + 1) (by omega) (by omega) (us M (o + 3) (p * 12 + k) (M (o + 3) (p * 12 + n + k))) (by rw [us_ne _ _ _ (by omega)]; exact hM)
      refine ⟨M', e1, fun a ha => by rw [e2 a ha, us_ne _ _ _ ha], fun x hx => ?_, fun i q1 q2 => ?_⟩
      · rw [e3 x (by omega), us_app, if_neg (by omega)]
      · by_cases hik : i = k
        · subst hik
          rw [e3 _ (by omega), us_app, if_pos ⟨rfl, by omega⟩]
          congr 1; omega
        · rw [e4 i (by omega) q2, us_app, if_neg (by omega)]
theorem c_drop {M : Mem} {o pe lg : Nat} {B : Blk} (hpe : pe ≤ 5) (hlg : lg ≤ 12) (hW : WfB pe lg B) (h : MoC M o pe B) {p n : Nat} (hp : p < pe) (hn : n ≤ bS B p) : ∃ M', gX1_dropTips o (nI p) (nI n) M = some M' ∧ MoC M' o pe (loseB B p n) ∧ ∀ a, a < o ∨ o + 5 ≤ a → M' a = M a := by
  have hs := hW.2.2.1 p hp
  obtain ⟨M', e1, e2, e3, e4⟩ := c_drop_l (o := o) (p := p) (n := n) (s := bS B p - n) (by omega) (by omega) FU 0 (by omega) (by unfold FU; omega) (us M (o + 1) p (nI (bS B p - n))) (by rw [us_app, if_pos ⟨rfl, rfl⟩])
  obtain ⟨h1, h2, h3, h4, h5, h6⟩ := h
  refine ⟨M', ?_, ⟨?_, ?_, fun q hq => ?_, fun q hq => ?_, fun q hq k hk => ?_, fun j hj t ht => ?_⟩, fun a ha => ?_⟩
  · rw [gX1_dropTips, i_12, pk_mul, Option.bind_some, ldA_n _ (by omega) (by decide), Option.bind_some, h3 p hp, pk_sub hn, stA_n _ _ _ (by omega) (by decide), Option.bind_some, i_0]
    exact e1
  · rw [e2 o (by omega), us_ne _ _ _ (by omega)]; exact h1
  · rw [e2 o (by omega), us_ne _ _ _ (by omega)]; exact h2
  · show M' (o + 1) q = nI (if q = p then bS B p - n else bS B q)
    rw [e2 _ (by omega), us_app]
    by_cases hqp : q = p
    · rw [if_pos ⟨rfl, hqp⟩, if_pos hqp]
    · rw [if_neg (fun z => hqp z.2), if_neg hqp]; exact h3 q hq
  · rw [e2 _ (by omega), us_ne _ _ _ (by omega)]; exact h4 q hq
  · show M' (o + 3) (12 * q + k) = nI (if q = p then bH B p (k + n) else bH B q k)
    have hk : k < if q = p then bS B p - n else bS B q := hk
    by_cases hqp : q = p
    · subst hqp
      rw [if_pos rfl] at hk ⊢
      rw [e4 k (by omega) hk, us_ne _ _ _ (by omega)]; exact h5 q hq _ (by omega)
    · rw [if_neg hqp] at hk ⊢
      have := hW.2.2.1 q hq
      rw [e3 _ (by omega), us_ne _ _ _ (by omega)]; exact h5 q hq k hk
  · rw [e2 _ (by omega), us_ne _ _ _ (by omega)]; exact h6 j hj t ht
  · rw [e2 a (by omega), us_ne _ _ _ (by omega)]
theorem loseB_W {pe lg : Nat} {B : Blk} (hW : WfB pe lg B) {p n : Nat} (hp : p < pe) (hn : n ≤ bS B p) : WfB pe lg (loseB B p n) := by
  refine ⟨hW.1, hW.2.1, fun q hq => ?_, hW.2.2.2.1, fun q hq k hk => ?_, hW.2.2.2.2.2⟩
  · show (if q = p then bS B p - n else bS B q) ≤ lg
    have := hW.2.2.1 q hq
    have := hW.2.2.1 p hp
    split <;> omega
  · show (if q = p then bH B p (k + n) else bH B q k) < 10
    have hk : k < if q = p then bS B p - n else bS B q := hk
    by_cases hqp : q = p
    · rw [if_pos hqp] at hk ⊢; exact hW.2.2.2.2.1 p hp _ (by omega)
    · rw [if_neg hqp] at hk ⊢; exact hW.2.2.2.2.1 q hq k hk
theorem m_lose_l {p n s : Nat} (hp : p < 5) (hs : s + n ≤ 12) : ∀ fu k, k ≤ s → s - k < fu → ∀ (M : Mem), M 201 (2 + p) = nI s → ∃ M', gX8_loses_14 fu (nI p) (nI n) (nI k) M = some M' ∧ (∀ a, a ≠ 201 → M' a = M a) ∧ (∀ x, (x < 7 + 12 * p + k ∨ 7 + 12 * p + s ≤ x) → M' 201 x = M 201 x) ∧ ∀ i, k ≤ i → i < s → M' 201 (7 + 12 * p + i) = M 201 (7 + 12 * p + (i + n)) := by
  intro fu
  induction fu with
  | zero => intro k _ h2; omega
  | succ fu ih =>
    intro k h1 h2 M hM
    rw [gX8_loses_14, i_2, nI_add, ldA_n _ (by omega) (by decide), Option.bind_some, hM]
    by_cases hk : s ≤ k
    · exact ⟨M, by rw [if_pos (nI_le hk (by omega))], fun a _ => rfl, fun x _ => rfl, fun i q1 q2 => absurd q2 (by omega)⟩
    · rw [if_neg (nI_ge (by omega) (by omega)), i_12, i_7, pk_mul, nI_add, nI_add, nI_add, ldA_n _ (by omega) (by decide), Option.bind_some, stA_n _ _ _ (by omega) (by decide), Option.bind_some, nI_1, Option.bind_some]
      obtain ⟨M', e1, e2, e3, e4⟩ := ih (k + 1) (by omega) (by omega) (us M 201 (7 + 12 * p + k) (M 201 (7 + 12 * p + k + n))) (by rw [us_app, if_neg (by omega)]; exact hM)
      refine ⟨M', e1, fun a ha => by rw [e2 a ha, us_ne _ _ _ ha], fun x hx => ?_, fun i q1 q2 => ?_⟩
      · rw [e3 x (by omega), us_app, if_neg (by omega)]
      · by_cases hik : i = k
        · subst hik
          rw [e3 _ (by omega), us_app, if_pos ⟨rfl, by omega⟩, Nat.add_assoc (7 + 12 * p) i n]
        · rw [e4 i (by omega) q2, us_app, if_neg (by omega)]
theorem m_lose {M : Mem} {pe lg : Nat} {B : Blk} (hpe : pe ≤ 5) (hlg : lg ≤ 12) (hW : WfB pe lg B) (h : MoM (M 201) 0 pe B) {p n : Nat} (hp : p < pe) (hn : n ≤ bS B p) : ∃ M', gX8_loses (nI p) (nI n) M = some M' ∧ MoM (M' 201) 0 pe (loseB B p n) ∧ (∀ a, a ≠ 201 → M' a = M a) ∧ ∀ j, 112 ≤ j → M' 201 j = M 201 j := by
  have hs := hW.2.2.1 p hp
  obtain ⟨M', e1, e2, e3, e4⟩ := m_lose_l (p := p) (n := n) (s := bS B p - n) (by omega) (by omega) FU 0 (by omega) (by unfold FU; omega) (us M 201 (2 + p) (nI (bS B p - n))) (by rw [us_app, if_pos ⟨rfl, rfl⟩])
  have g1 := m_size hpe h hp
  obtain ⟨h1, h2, h3, h4, h5, h6⟩ := h
  refine ⟨M', ?_, ⟨?_, ?_, fun q hq => ?_, fun q hq => ?_, fun q hq k hk => ?_, fun j hj t ht => ?_⟩, fun a ha => ?_, fun j hj => ?_⟩
  · rw [gX8_loses, g1, Option.bind_some, pk_sub hn, i_2, nI_add, stA_n _ _ _ (by omega) (by decide), Option.bind_some, i_0]
    exact e1
  · rw [e3 _ (by omega), us_app, if_neg (by omega)]; exact h1
  · rw [e3 _ (by omega), us_app, if_neg (by omega)]; exact h2
  · show M' 201 (0 + (2 + q)) = nI (if q = p then bS B p - n else bS B q)
    rw [e3 _ (by omega), us_app]
    by_cases hqp : q = p
    · rw [if_pos ⟨rfl, by omega⟩, if_pos hqp]
    · rw [if_neg (by omega), if_neg hqp]; exact h3 q hq
  · rw [e3 _ (by omega), us_app, if_neg (by omega)]; exact h4 q hq
  · show M' 201 (0 + (7 + 12 * q + k)) = nI (if q = p then bH B p (k + n) else bH B q k)
    have hk : k < if q = p then bS B p - n else bS B q := hk
    by_cases hqp : q = p
    · subst hqp
      rw [if_pos rfl] at hk ⊢
      rw [Nat.zero_add, e4 k (by omega) hk, us_app, if_neg (by omega)]
      have := h5 q hq (k + n) (by omega)
      rwa [Nat.zero_add] at this
    · rw [if_neg hqp] at hk ⊢
      have := hW.2.2.1 q hq
      rw [e3 _ (by omega), us_app, if_neg (by omega)]; exact h5 q hq k hk
  · rw [e3 _ (by omega), us_app, if_neg (by omega)]; exact h6 j hj t ht
  · rw [e2 a ha, us_ne _ _ _ ha]
  · rw [e3 _ (by omega), us_app, if_neg (by omega)]
def swp (J : Nat → Nat → Nat) (c : Nat) (h : Nat → Nat) : Nat → Nat → Nat → Nat
  | 0 => J
  | k + 1 => fun j t => if j = c ∧ t = h k then min (swp J c h k j t + 1) 99 else swp J c h k j t
theorem swp_le {J : Nat → Nat → Nat} {c : Nat} {h : Nat → Nat} (hJ : ∀ j, j < 4 → ∀ t, t < 10 → J j t ≤ 99) : ∀ k, ∀ j, j < 4 → ∀ t, t < 10 → swp J c h k j t ≤ 99
  | 0, j, hj, t, ht => hJ j hj t ht
  | k + 1, j, hj, t, ht => by
    have := swp_le (c := c) (h := h) hJ k j hj t ht
    show (if j = c ∧ t = h k then min (swp J c h k j t + 1) 99 else swp J c h k j t) ≤ 99
    split <;> omega
theorem setJ_W {pe lg : Nat} {B : Blk} {J : Nat → Nat → Nat} (hW : WfB pe lg B) (hJ : ∀ j, j < 4 → ∀ t, t < 10 → J j t ≤ 99) : WfB pe lg (setJ B J) := ⟨hW.1, hW.2.1, hW.2.2.1, hW.2.2.2.1, hW.2.2.2.2.1, hJ⟩
theorem c_sweep_l {o pe lg : Nat} {B : Blk} (hpe : pe ≤ 5) (hlg : lg ≤ 12) (hW : WfB pe lg B) {p n : Nat} (hp : p < pe) (hn : n ≤ bS B p) : ∀ fu k, k ≤ n → n - k < fu → ∀ (M : Mem), MoC M o pe (setJ B (swp (bJ B) (bC B) (bH B p) k)) → ∃ M', gX1_sweep_2 o fu (nI p) (nI n) (nI k) M = some M' ∧ MoC M' o pe (loseB (setJ B (swp (bJ B) (bC B) (bH B p) n)) p n) ∧ ∀ a, a < o ∨ o + 5 ≤ a → M' a = M a := by
  have hs := hW.2.2.1 p hp
  intro fu
  induction fu with
  | zero => intro k _ h2; omega
  | succ fu ih =>
    intro k h1 h2 M hM
    have hWk : WfB pe lg (setJ B (swp (bJ B) (bC B) (bH B p) k)) := setJ_W hW (swp_le hW.2.2.2.2.2 k)
    rw [gX1_sweep_2]
    by_cases hk : n ≤ k
    · have hk2 : k = n := by omega
      subst hk2
      obtain ⟨M', e1, e2, e3⟩ := c_drop hpe hlg hWk hM hp hn
      exact ⟨M', by rw [if_pos (nI_le hk (by omega)), e1, Option.bind_some], e2, e3⟩
    · have hh := hW.2.2.2.2.1 p hp k (by omega)
      have hc := hW.2.1
      have g1 : gX1_layerAt o (nI p) (nI k) M = some (nI (bH B p k)) := c_layer hpe hlg hWk hM hp (show k < bS B p by omega)
      have g2 : M o 5 = nI (bC B) := hM.2.1
      have g3 : M (o + 4) (10 * bC B + bH B p k) = nI (swp (bJ B) (bC B) (bH B p) k (bC B) (bH B p k)) := hM.2.2.2.2.2 _ hc _ hh
      have hle := swp_le (c := bC B) (h := bH B p) hW.2.2.2.2.2 k _ hc _ hh
      have g4 : mn (nI (swp (bJ B) (bC B) (bH B p) k (bC B) (bH B p k)) + 1) 99 = nI (min (swp (bJ B) (bC B) (bH B p) k (bC B) (bH B p k) + 1) 99) := by
        unfold mn
        rw [nI_1]
        by_cases hq : 99 < swp (bJ B) (bC B) (bH B p) k (bC B) (bH B p k) + 1
        · rw [if_pos (show (99 : Int32) < _ from nI_lt (a := 99) hq (by omega)), Nat.min_eq_right (by omega)]; rfl
        · rw [if_neg (show ¬ (99 : Int32) < _ from nI_nlt (b := _) (a := 99) (by omega) (by omega)), Nat.min_eq_left (by omega)]
      rw [if_neg (nI_ge (by omega) (by omega)), g1, Option.bind_some, g2, i_10, pk_mul, nI_add, Option.bind_some, show bC B * 10 + bH B p k = 10 * bC B + bH B p k by omega, ldA_n _ (by omega) (by decide), Option.bind_some, g3, g4, Option.bind_some, stA_n _ _ _ (by omega) (by decide), Option.bind_some, nI_1, Option.bind_some]
      obtain ⟨M', e1, e2, e3⟩ := ih (k + 1) (by omega) (by omega) (us M (o + 4) (10 * bC B + bH B p k) (nI (min (swp (bJ B) (bC B) (bH B p) k (bC B) (bH B p k) + 1) 99))) (by
        obtain ⟨u1, u2, u3, u4, u5, u6⟩ := hM
        refine ⟨?_, ?_, fun q hq => ?_, fun q hq => ?_, fun q hq i hi => ?_, fun j hj t ht => ?_⟩
        · rw [us_ne _ _ _ (by omega)]; exact u1
        · rw [us_ne _ _ _ (by omega)]; exact u2
        · rw [us_ne _ _ _ (by omega)]; exact u3 q hq
        · rw [us_ne _ _ _ (by omega)]; exact u4 q hq
        · rw [us_ne _ _ _ (by omega)]; exact u5 q hq i hi
        · show us M (o + 4) _ _ (o + 4) (10 * j + t) = nI (if j = bC B ∧ t = bH B p k then min (swp (bJ B) (bC B) (bH B p) k j t + 1) 99 else swp (bJ B) (bC B) (bH B p) k j t)
          rw [us_app]
          by_cases hq : j = bC B ∧ t = bH B p k
          · rw [if_pos ⟨rfl, by omega⟩, if_pos hq, hq.1, hq.2]
          · rw [if_neg (by omega), if_neg hq]; exact u6 j hj t ht)
      exact ⟨M', e1, e2, fun a ha => by rw [e3 a ha, us_ne _ _ _ (by omega)]⟩
theorem m_sweep_l {pe lg : Nat} {B : Blk} (hpe : pe ≤ 5) (hlg : lg ≤ 12) (hW : WfB pe lg B) {p n : Nat} (hp : p < pe) (hn : n ≤ bS B p) : ∀ fu k, k ≤ n → n - k < fu → ∀ (M : Mem), MoM (M 201) 0 pe (setJ B (swp (bJ B) (bC B) (bH B p) k)) → ∃ M', gX8_cuts_41 fu (nI p) (nI n) (nI k) M = some (nI (bS B p - n), M') ∧ MoM (M' 201) 0 pe (loseB (setJ B (swp (bJ B) (bC B) (bH B p) n)) p n) ∧ (∀ a, a ≠ 201 → M' a = M a) ∧ ∀ j, 112 ≤ j → M' 201 j = M 201 j := by
  have hs := hW.2.2.1 p hp
  intro fu
  induction fu with
  | zero => intro k _ h2; omega
  | succ fu ih =>
    intro k h1 h2 M hM
    have hWk : WfB pe lg (setJ B (swp (bJ B) (bC B) (bH B p) k)) := setJ_W hW (swp_le hW.2.2.2.2.2 k)
    rw [gX8_cuts_41]
    by_cases hk : n ≤ k
    · have hk2 : k = n := by omega
      subst hk2
      obtain ⟨M', e1, e2, e3, e4⟩ := m_lose hpe hlg hWk hM hp hn
      have e5 : ldA 1233 (M' 201) (2 + nI p) = some (nI (if p = p then bS B p - k else bS B p)) := m_size hpe e2 hp
      rw [if_pos rfl] at e5
      exact ⟨M', by rw [if_pos (nI_le hk (by omega)), e1, Option.bind_some, e5, Option.bind_some], e2, e3, e4⟩
    · have hh := hW.2.2.2.2.1 p hp k (by omega)
      have hc := hW.2.1
      have g1 : gX8_layerOf (nI p) (nI k) M = some (nI (bH B p k)) := m_layer hpe hlg hWk hM hp (show k < bS B p by omega)
      have g2 : ldA 1233 (M 201) 1 = some (nI (bC B)) := by rw [i_1, ldA_n _ (by decide) (by decide)]; exact congrArg some hM.2.1
      have g3 : M 201 (72 + 10 * bC B + bH B p k) = nI (swp (bJ B) (bC B) (bH B p) k (bC B) (bH B p k)) := by
        have := hM.2.2.2.2.2 _ hc _ hh
        rwa [Nat.zero_add] at this
      have hle := swp_le (c := bC B) (h := bH B p) hW.2.2.2.2.2 k _ hc _ hh
      have ghead : ∀ (x : Nat), x = min (swp (bJ B) (bC B) (bH B p) k (bC B) (bH B p k) + 1) 99 → ∃ M', (gX8_cuts_41 fu) (nI p) (nI n) (nI (k + 1)) (us M 201 (72 + 10 * bC B + bH B p k) (nI x)) = some (nI (bS B p - n), M') ∧ MoM (M' 201) 0 pe (loseB (setJ B (swp (bJ B) (bC B) (bH B p) n)) p n) ∧ (∀ a, a ≠ 201 → M' a = M a) ∧ ∀ j, 112 ≤ j → M' 201 j = M 201 j := by
        intro x ex
        obtain ⟨M', e1, e2, e3, e4⟩ := ih (k + 1) (by omega) (by omega) (us M 201 (72 + 10 * bC B + bH B p k) (nI x)) (by
          obtain ⟨u1, u2, u3, u4, u5, u6⟩ := hM
          refine ⟨?_, ?_, fun q hq => ?_, fun q hq => ?_, fun q hq i hi => ?_, fun j hj t ht => ?_⟩
          · rw [us_app, if_neg (by omega)]; exact u1
          · rw [us_app, if_neg (by omega)]; exact u2
          · rw [us_app, if_neg (by omega)]; exact u3 q hq
          · rw [us_app, if_neg (by omega)]; exact u4 q hq
          · have := hW.2.2.1 q hq
            have hi : i < bS B q := hi
            rw [us_app, if_neg (by omega)]; exact u5 q hq i hi
          · show us M 201 _ _ 201 (0 + (72 + 10 * j + t)) = nI (if j = bC B ∧ t = bH B p k then min (swp (bJ B) (bC B) (bH B p) k j t + 1) 99 else swp (bJ B) (bC B) (bH B p) k j t)
            rw [us_app]
            by_cases hq : j = bC B ∧ t = bH B p k
            · rw [if_pos ⟨rfl, by omega⟩, if_pos hq, hq.1, hq.2, ex]
            · rw [if_neg (by omega), if_neg hq]; exact u6 j hj t ht)
        exact ⟨M', e1, e2, fun a ha => by rw [e3 a ha, us_ne _ _ _ ha], fun j hj => by rw [e4 j hj, us_app, if_neg (by omega)]⟩
      rw [if_neg (nI_ge (by omega) (by omega)), g2, Option.bind_some, g1, Option.bind_some, i_10, i_72, pk_mul, nI_add, nI_add, Option.bind_some, ldA_n _ (by omega) (by decide), Option.bind_some, Option.bind_some, g3]
      by_cases hq : 99 ≤ swp (bJ B) (bC B) (bH B p) k (bC B) (bH B p k)
      · rw [if_pos (show (99 : Int32) ≤ _ from nI_le (a := 99) hq (by omega)), gX8_cuts_92, i_0, nI_add, stA_n _ _ _ (by omega) (by decide), Option.bind_some, nI_1, Option.bind_some]
        exact ghead _ (by rw [Nat.min_eq_right (by omega)]; omega)
      · rw [if_neg (show ¬ (99 : Int32) ≤ _ from nI_ge (b := 99) (by omega) (by omega)), gX8_cuts_92, nI_1, stA_n _ _ _ (by omega) (by decide), Option.bind_some, nI_1, Option.bind_some]
        exact ghead _ (by rw [Nat.min_eq_left (by omega)])
theorem setJ_0 (B : Blk) : setJ B (bJ B) = B := rfl
theorem sim_cuts : Sim_cuts II := by
  intro MC TC MM TM hI a1 a2
  obtain ⟨rfl, A, hW, hC, hM⟩ := hI
  obtain ⟨σ, hs, ht⟩ := id hC.2.2.1
  have hWB := hW.2.2.1.2.1
  have hpe := hW.2.1.1
  have hlg := hW.2.1.2.2.1
  rcases isOn a1 (by omega) hC.2.1.1 hM.2.1.1 with ⟨p, hp, rfl, k1, k2⟩ | ⟨k1, k2⟩
  · have hsz := hWB.2.2.1 p hp
    have s2 : ldA 5 (MC 10) (nI p) = some (nI (bS (mB (aT A)) p)) := c_size (o := 9) hpe ht.2.1 hp
    have r2 := m_size hpe hM.2.2.1.2.1 hp
    rcases wi3 a2 1 12 (by decide) (by decide) with ⟨n, hn1, hn2, rfl, k3, k4⟩ | ⟨k3, k4⟩
    · replace k3 : gX7_within (nI n) 1 12 = some 1 := k3
      replace k4 : gX8_in (nI n) 1 12 = some 1 := k4
      by_cases hq : n ≤ bS (mB (aT A)) p
      · obtain ⟨M1, M2, σ1, g1, g2, hW1, hP1, hT1, hT2, q1, q2⟩ := both_rem hW hC hM
        have hB1 := hT1.2.1
        have hB2 := hT2.2.1
        rw [remT_B] at hB1 hB2
        obtain ⟨N1, a1, a2, a3⟩ := c_sweep_l (o := 9) hpe hlg hWB hp hq FU 0 (by omega) (by unfold FU; omega) M1 hB1
        obtain ⟨N2, b1, b2, b3, b4⟩ := m_sweep_l hpe hlg hWB hp hq FU 0 (by omega) (by unfold FU; omega) M2 hB2
        have a1' : gX1_sweep 9 (nI p) (nI n) M1 = some N1 := by rw [gX1_sweep, i_0]; exact a1
        have b1' : gX8_cuts_41 FU (nI p) (nI n) 0 M2 = some (nI (bS (mB (aT A)) p - n), N2) := by rw [i_0]; exact b1
        have a4 : ldA 5 (N1 10) (nI p) = some (nI (if p = p then bS (mB (aT A)) p - n else bS (mB (aT A)) p)) := c_size (o := 9) hpe a2 hp
        rw [if_pos rfl] at a4
        have hWl := loseB_W (setJ_W hWB (swp_le (c := bC (mB (aT A))) (h := bH (mB (aT A)) p) hWB.2.2.2.2.2 n)) hp hq
        refine ⟨(nI (bS (mB (aT A)) p - n), N1), (nI (bS (mB (aT A)) p - n), N2), ?_, ?_, rfl, rfl, _, wf_setT hW (wfm_setB hW1 hWl), hC.setT hW ⟨σ1, tc_setB hW1.1 hP1 hT1 a2 (fun a ha => a3 a (by omega))⟩ (fun a ha => by dsimp only; rw [a3 a (by omega), q1 a ha]), hM.setT (tm_setB hpe hlg hW1 hT2 b2 b4) (fun a ha => by dsimp only; rw [b3 a ha, q2 a ha])⟩
        · simp only [gX7_cuts, k1, k3, obs, s2, g1, a1', a4]
          rw [if_neg (by decide), if_neg (by decide), if_pos (nI_le hq (by omega))]
        · simp only [gX8_cuts, k2, k4, obs, r2, g2, b1']
          rw [if_neg (by decide), if_neg (by decide), if_pos (nI_le hq (by omega))]
      · refine ⟨(-2, MC), (-2, MM), ?_, ?_, rfl, rfl, A, hW, hC, hM⟩
        · simp only [gX7_cuts, k1, k3, obs, s2]
          rw [if_neg (by decide), if_neg (by decide), if_neg (nI_ge (by omega) (by omega))]
        · simp only [gX8_cuts, k2, k4, obs, r2]
          rw [if_neg (by decide), if_neg (by decide), if_neg (nI_ge (by omega) (by omega))]
    · replace k3 : gX7_within a2 1 12 = some 0 := k3
      replace k4 : gX8_in a2 1 12 = some 0 := k4
      refine ⟨(-1, MC), (-1, MM), ?_, ?_, rfl, rfl, A, hW, hC, hM⟩
      · simp only [gX7_cuts, k1, k3, obs]; rw [if_neg (by decide), if_pos trivial]
      · simp only [gX8_cuts, k2, k4, obs]; rw [if_neg (by decide), if_pos trivial]
  · refine ⟨(-1, MC), (-1, MM), ?_, ?_, rfl, rfl, A, hW, hC, hM⟩
    · simp only [gX7_cuts, k1, obs]; rw [if_pos trivial]
    · simp only [gX8_cuts, k2, obs]; rw [if_pos trivial]
