def B0 (j : Nat) : Blk := (0, j, (fun _ => 0), (fun _ => 0), (fun _ _ => 0), fun _ _ => 0)
theorem cpE {n : Nat} (hn : n < 2147483648) (N : Mem) (o0 o1 : Nat) : ∃ N', cpA n n N o0 (nI 0) o1 (nI 0) (nI n) = some N' ∧ (∀ j, j < n → N' o1 j = N o0 j) ∧ ∀ a, a ≠ o1 → N' a = N a := ⟨_, cp0 hn N o0 o1, fun j hj => by rw [uf_at, sb_cpy0 hj], fun a ha => uf_ne _ _ ha⟩
theorem c_town {M : Mem} {W : Twn} {j : Nat} {lt jt : Bool} (h : DC M W j lt jt) (hW : WfD W j lt jt) : ∃ M', gX6_copyFrom 191 4 M = some M' ∧ ToC M' W ∧ M' 191 5 = nI j ∧ ∀ a, (a < 191 ∨ 195 ≤ a) → M' a = M a := by
  obtain ⟨h1, h2, h3, h4, h5, h6, h7, h8⟩ := h
  have hpe := hW.1.1
  have g4 : us M 191 3 (nI (tP W)) 4 4 = nI (tL W) := by rw [us_ne _ _ _ (by decide)]; exact h2
  have g5 : us (us M 191 3 (nI (tP W))) 191 4 (nI (tL W)) 4 5 = nI j := by rw [us_ne _ _ _ (by decide), us_ne _ _ _ (by decide)]; exact h3
  obtain ⟨N1, a1, a2, a3⟩ := cpE (n := 5) (by decide) (us (us (us M 191 3 (nI (tP W))) 191 4 (nI (tL W))) 191 5 (nI j)) (4 + 1) (191 + 1)
  obtain ⟨N2, b1, b2, b3⟩ := cpE (n := 5) (by decide) N1 (4 + 2) (191 + 2)
  obtain ⟨N3, c1, c2, c3⟩ := cpE (n := 35) (by decide) N2 (4 + 3) (191 + 3)
  replace a1 : cpA 5 5 (us (us (us M 191 3 (nI (tP W))) 191 4 (nI (tL W))) 191 5 (nI j)) (4 + 1) 0 (191 + 1) 0 5 = some N1 := a1
  replace b1 : cpA 5 5 N1 (4 + 2) 0 (191 + 2) 0 5 = some N2 := b1
  replace c1 : cpA 35 35 N2 (4 + 3) 0 (191 + 3) 0 35 = some N3 := c1
  have k3 : ∀ p, p < 5 → N3 192 p = M 5 p := fun p hp => by rw [c3 _ (by decide), b3 _ (by decide)]; exact (a2 p hp).trans (by rw [us_ne _ _ _ (by decide), us_ne _ _ _ (by decide), us_ne _ _ _ (by decide)])
  have k4 : ∀ p, p < 5 → N3 193 p = M 6 p := fun p hp => by rw [c3 _ (by decide)]; exact (b2 p hp).trans (by rw [a3 _ (by decide), us_ne _ _ _ (by decide), us_ne _ _ _ (by decide), us_ne _ _ _ (by decide)])
  have k5 : ∀ p, p < 35 → N3 194 p = M 7 p := fun p hp => (c2 p hp).trans (by rw [b3 _ (by decide), a3 _ (by decide), us_ne _ _ _ (by decide), us_ne _ _ _ (by decide), us_ne _ _ _ (by decide)])
  refine ⟨N3, ?_, ⟨?_, ?_, fun p hp => ?_, fun p hp => ?_, fun p hp k hk => ?_⟩, ?_, fun a ha => ?_⟩
  · rw [gX6_copyFrom, h1, obs, g4, obs, g5, obs, a1, obs, b1, obs, c1, obs]
  · rw [c3 _ (by decide), b3 _ (by decide), a3 _ (by decide), us_app, if_neg (by decide), us_app, if_neg (by decide), us_app, if_pos ⟨rfl, rfl⟩]
  · rw [c3 _ (by decide), b3 _ (by decide), a3 _ (by decide), us_app, if_neg (by decide), us_app, if_pos ⟨rfl, rfl⟩]
  · rw [k3 p (by omega)]; exact h4 p hp
  · rw [k4 p (by omega)]; exact h5 p hp
  · have := hW.1.2.2.2.2.1 p hp
    rw [k5 _ (by omega)]; exact h6 p hp k hk
  · rw [c3 _ (by decide), b3 _ (by decide), a3 _ (by decide), us_app, if_pos ⟨rfl, rfl⟩]
  · rw [c3 a (by omega), b3 a (by omega), a3 a (by omega), us_ne _ _ _ (by omega), us_ne _ _ _ (by omega), us_ne _ _ _ (by omega)]
theorem c_beg {M : Mem} {j pe : Nat} (hpe : pe ≤ 5) : ∃ M', gX5_begin 8 (nI j) M = some M' ∧ M' 8 2 = nI 0 ∧ MoC M' 9 pe (B0 j) ∧ ∀ a, a ≠ 8 → (a < 9 ∨ 14 ≤ a) → M' a = M a := by
  obtain ⟨M1, a1, a2, a3, a4⟩ := c_fill (o := 9 + 1) (n0 := 5) (x := 0) (by decide) (us (us M 9 4 0) 9 5 (nI j))
  obtain ⟨M2, b1, b2, b3, b4⟩ := c_fill (o := 9 + 2) (n0 := 5) (x := -9) (by decide) M1
  obtain ⟨M3, c1, c2, c3, c4⟩ := c_fill (o := 9 + 4) (n0 := 40) (x := 0) (by decide) M2
  refine ⟨us M3 8 2 0, ?_, ?_, ⟨?_, ?_, fun p hp => ?_, fun p hp => ?_, fun p hp k hk => absurd hk (Nat.not_lt_zero k), fun q hq t ht => ?_⟩, fun a h8 ha => ?_⟩
  · rw [gX5_begin, show (8 + 1) = 9 from rfl, gX1_begin, obs, obs, a1, obs, b1, obs, c1, obs, obs, obs]
  · rw [us_app, if_pos ⟨rfl, rfl⟩]; rfl
  · rw [us_ne _ _ _ (by decide), c2 _ (by decide), b2 _ (by decide), a2 _ (by decide), us_app, if_neg (by decide), us_app, if_pos ⟨rfl, rfl⟩]; rfl
  · rw [us_ne _ _ _ (by decide), c2 _ (by decide), b2 _ (by decide), a2 _ (by decide), us_app, if_pos ⟨rfl, rfl⟩]; rfl
  · rw [us_ne _ _ _ (by decide), c2 _ (by decide), b2 _ (by decide), a4 p (by omega)]; rfl
  · rw [us_ne _ _ _ (by decide), c2 _ (by decide), b4 p (by omega)]; rfl
  · rw [us_ne _ _ _ (by decide), c4 _ (by omega)]; rfl
  · rw [us_ne _ _ _ h8, c2 a (by omega), b2 a (by omega), a2 a (by omega), us_ne _ _ _ (by omega), us_ne _ _ _ (by omega)]
theorem c_shop59 {x1 : Int32} (M : Mem) : gX7_shop_59 FU x1 0 M = some (x1, us (us M 180 0 0) 180 1 0) := by
  have s0 : ∀ (N : Mem), stZ 2 N 180 0 0 = some (us N 180 0 0) := fun N => stZ_n (j := 0) N 180 (Or.inl rfl) (by decide) (by decide)
  have s1 : ∀ (N : Mem), stZ 2 N 180 (0 + 1) 0 = some (us N 180 1 0) := fun N => stZ_n (j := 1) N 180 (Or.inl rfl) (by decide) (by decide)
  rw [show FU = 4093 + 1 + 1 + 1 from rfl, gX7_shop_59, if_neg (by decide), s0, obs, obs, gX7_shop_59, if_neg (by decide), s1, obs, obs, gX7_shop_59, if_pos (by decide)]
-- the reference
theorem m_set10 : ∀ fu i, i ≤ 5 → 5 - i < fu → ∀ (M : Mem), ∃ M', gX8_settles_10 fu (nI i) M = gX8_settles_47 FU 0 M' ∧ (∀ k, (k < i ∨ 5 ≤ k) → M' 198 k = M 198 k ∧ M' 199 k = M 199 k) ∧ (∀ k, i ≤ k → k < 5 → M' 198 k = M 207 k ∧ M' 199 k = M 208 k) ∧ ∀ a, a ≠ 198 → a ≠ 199 → M' a = M a := by
  intro fu
  induction fu with
  | zero => intro i _ h2; omega
  | succ fu ih =>
    intro i h1 h2 M
    rw [gX8_settles_10]
    by_cases hi : 5 ≤ i
    · exact ⟨M, by rw [if_pos (show (5 : Int32) ≤ nI i from nI_le (a := 5) hi (by omega))], fun k _ => ⟨rfl, rfl⟩, fun k q1 q2 => absurd q2 (by omega), fun a _ _ => rfl⟩
    · obtain ⟨M', e1, e2, e3, e4⟩ := ih (i + 1) (by omega) (by omega) (us (us M 198 i (M 207 i)) 199 i (M 208 i))
      refine ⟨M', ?_, fun k hk => ?_, fun k q1 q2 => ?_, fun a z1 z2 => by rw [e4 a z1 z2, us_ne _ _ _ z2, us_ne _ _ _ z1]⟩
      · rw [if_neg (show ¬ (5 : Int32) ≤ nI i from nI_ge (b := 5) (by omega) (by omega)), ldA_n _ (by omega) (by decide), obs, stA_n _ _ _ (by omega) (by decide), obs, us_ne _ _ _ (by decide), ldA_n _ (by omega) (by decide), obs, stA_n _ _ _ (by omega) (by decide), obs, nI_1, obs]
        exact e1
      · rw [(e2 k (by omega)).1, (e2 k (by omega)).2, us_ne _ _ _ (by decide), us_app, if_neg (fun z => by omega), us_app, if_neg (fun z => by omega), us_ne _ _ _ (by decide)]
        exact ⟨rfl, rfl⟩
      · by_cases q : k = i
        · rw [(e2 k (by omega)).1, (e2 k (by omega)).2, us_ne _ _ _ (by decide), us_app, if_pos ⟨rfl, q⟩, us_app, if_pos ⟨rfl, q⟩, q]
          exact ⟨rfl, rfl⟩
        · have := e3 k (by omega) q2
          rw [us_ne _ _ _ (by decide), us_ne _ _ _ (by decide), us_ne _ _ _ (by decide), us_ne _ _ _ (by decide)] at this
          exact this
theorem m_set47 : ∀ fu i, i ≤ 35 → 35 - i < fu → ∀ (M : Mem), ∃ M', gX8_settles_47 fu (nI i) M = (if 0 ≤ (M 197 25) then (gX8_settles_88 (M 197 25) M') else (gX8_settles_88 12 M')) ∧ (∀ k, (k < i ∨ 35 ≤ k) → M' 200 k = M 200 k) ∧ (∀ k, i ≤ k → k < 35 → M' 200 k = M 209 k) ∧ ∀ a, a ≠ 200 → M' a = M a := by
  intro fu
  induction fu with
  | zero => intro i _ h2; omega
  | succ fu ih =>
    intro i h1 h2 M
    rw [gX8_settles_47]
    by_cases hi : 35 ≤ i
    · exact ⟨M, by rw [if_pos (show (35 : Int32) ≤ nI i from nI_le (a := 35) hi (by omega))], fun k _ => rfl, fun k q1 q2 => absurd q2 (by omega), fun a _ => rfl⟩
    · obtain ⟨M', e1, e2, e3, e4⟩ := ih (i + 1) (by omega) (by omega) (us M 200 i (M 209 i))
      refine ⟨M', ?_, fun k hk => ?_, fun k q1 q2 => ?_, fun a z1 => by rw [e4 a z1, us_ne _ _ _ z1]⟩
      · rw [if_neg (show ¬ (35 : Int32) ≤ nI i from nI_ge (b := 35) (by omega) (by omega)), ldA_n _ (by omega) (by decide), obs, stA_n _ _ _ (by omega) (by decide), obs, nI_1, obs, e1, us_ne _ _ _ (by decide)]
      · rw [e2 k (by omega), us_app, if_neg (fun z => by omega)]
      · by_cases q : k = i
        · rw [e2 k (by omega), us_app, if_pos ⟨rfl, q⟩, q]
        · rw [e3 k (by omega) q2, us_ne _ _ _ (by decide)]
theorem m_set93 : ∀ fu i, i ≤ 1233 → 1233 - i < fu → ∀ (M : Mem), (∀ k, k < i → M 201 k = 0) → ∃ M', gX8_settles_93 fu (nI i) M = (if 0 ≤ (M 197 26) then (gX8_settles_133 (M 197 26) 1 M') else (gX8_settles_133 0 1 M')) ∧ (∀ k, k < 1233 → M' 201 k = 0) ∧ ∀ a, a ≠ 201 → M' a = M a := by
  intro fu
  induction fu with
  | zero => intro i _ h2; omega
  | succ fu ih =>
    intro i h1 h2 M h
    rw [gX8_settles_93]
    by_cases hi : 1233 ≤ i
    · exact ⟨M, by rw [if_pos (show (1233 : Int32) ≤ nI i from nI_le (a := 1233) hi (by omega))], fun k hk => h k (by omega), fun a _ => rfl⟩
    · obtain ⟨M', e1, e2, e3⟩ := ih (i + 1) (by omega) (by omega) (us M 201 i 0) (fun k hk => by
        rw [us_app]
        by_cases q : k = i
        · rw [if_pos ⟨rfl, q⟩]
        · rw [if_neg (fun z => q z.2)]; exact h k (by omega))
      refine ⟨M', ?_, e2, fun a z1 => by rw [e3 a z1, us_ne _ _ _ z1]⟩
      rw [if_neg (show ¬ (1233 : Int32) ≤ nI i from nI_ge (b := 1233) (by omega) (by omega)), stA_n _ _ _ (by omega) (by decide), obs, nI_1, obs, e1, us_ne _ _ _ (by decide)]
theorem m_set136 : ∀ fu i, i ≤ 5 → 5 - i < fu → ∀ (M : Mem), (∀ k, k < i → M 201 (67 + k) = -9) → ∃ M', gX8_settles_136 fu (nI i) M = some (us (us (us (us (us M' 197 8 0) 197 10 0) 203 0 0) 203 1 0) 197 14 0) ∧ (∀ k, k < 5 → M' 201 (67 + k) = -9) ∧ (∀ k, (k < 67 ∨ 72 ≤ k) → M' 201 k = M 201 k) ∧ ∀ a, a ≠ 201 → M' a = M a := by
  have s0 : ∀ (N : Mem), stZ 2 N 203 0 0 = some (us N 203 0 0) := fun N => stZ_n (j := 0) N 203 (Or.inl rfl) (by decide) (by decide)
  have s1 : ∀ (N : Mem), stZ 2 N 203 1 0 = some (us N 203 1 0) := fun N => stZ_n (j := 1) N 203 (Or.inl rfl) (by decide) (by decide)
  intro fu
  induction fu with
  | zero => intro i _ h2; omega
  | succ fu ih =>
    intro i h1 h2 M h
    rw [gX8_settles_136]
    by_cases hi : 5 ≤ i
    · exact ⟨M, by rw [if_pos (show (5 : Int32) ≤ nI i from nI_le (a := 5) hi (by omega)), obs, obs, s0, obs, s1, obs, obs], fun k hk => h k (by omega), fun k _ => rfl, fun a _ => rfl⟩
    · obtain ⟨M', e1, e2, e3, e4⟩ := ih (i + 1) (by omega) (by omega) (us M 201 (67 + i) (-9)) (fun k hk => by
        rw [us_app]
        by_cases q : k = i
        · rw [if_pos ⟨rfl, by omega⟩]
        · rw [if_neg (fun z => by omega)]; exact h k (by omega))
      refine ⟨M', ?_, e2, fun k hk => by rw [e3 k hk, us_app, if_neg (fun z => by omega)], fun a z1 => by rw [e4 a z1, us_ne _ _ _ z1]⟩
      rw [if_neg (show ¬ (5 : Int32) ≤ nI i from nI_ge (b := 5) (by omega) (by omega)), i_67, nI_add, stA_n _ _ _ (by omega) (by decide), obs, nI_1, obs]
      exact e1
theorem m_settles {M : Mem} {W : Twn} {j : Nat} {lt jt : Bool} (h : DM M W j lt jt) (hW : WfD W j lt jt) : ∃ M', gX8_settles M = some M' ∧ M' 197 20 = M 197 20 ∧ ToM M' W ∧ M' 201 112 = nI 0 ∧ MoM (M' 201) 0 (tP W) (B0 j) ∧ (∀ i, i < 2 → M' 203 i = 0) ∧ M' 197 8 = nI 0 ∧ M' 197 10 = nI 0 ∧ M' 197 14 = nI 0 := by
  obtain ⟨h1, h2, h3, h4, h5, h6⟩ := h
  have hpe := hW.1.1
  have hl := hW.1.2.2.1
  have hj := hW.2.1
  obtain ⟨M1, a1, a2, a3, a4⟩ := m_set10 FU 0 (by omega) (by unfold FU; omega) (us M 197 0 (nI (tP W)))
  obtain ⟨M2, b1, b2, b3, b4⟩ := m_set47 FU 0 (by omega) (by unfold FU; omega) M1
  obtain ⟨M3, c1, c2, c3⟩ := m_set93 FU 0 (by omega) (by unfold FU; omega) (us M2 197 4 (nI (tL W))) (fun k hk => absurd hk (Nat.not_lt_zero k))
  obtain ⟨M4, d1, d2, d3, d4⟩ := m_set136 FU 0 (by omega) (by unfold FU; omega) (us M3 201 1 (nI j)) (fun k hk => absurd hk (Nat.not_lt_zero k))
  have v25 : M1 197 25 = if lt = true then nI (tL W) else -1 := by rw [a4 _ (by decide) (by decide), us_app, if_neg (by decide)]; exact h2
  have v26 : us M2 197 4 (nI (tL W)) 197 26 = if jt = true then nI j else -1 := by rw [us_app, if_neg (by decide), b4 _ (by decide), a4 _ (by decide) (by decide), us_app, if_neg (by decide)]; exact h3
  have E1 : gX8_settles M = gX8_settles_47 FU (nI 0) M1 := by rw [gX8_settles, h1, obs, i_0]; exact a1
  have E2 : gX8_settles_47 FU (nI 0) M1 = gX8_settles_88 (nI (tL W)) M2 := by
    rw [b1, v25]
    by_cases q : lt = true
    · rw [if_pos q, if_pos (nI_pos' (by omega))]
    · rw [if_neg q, if_neg (by decide), hW.2.2.1 (by rwa [Bool.not_eq_true] at q)]; rfl
  have E3 : gX8_settles_88 (nI (tL W)) M2 = gX8_settles_133 (nI j) 1 M3 := by
    rw [gX8_settles_88, obs, i_0, c1, v26]
    by_cases q : jt = true
    · rw [if_pos q, if_pos (nI_pos' (by omega))]
    · rw [if_neg q, if_neg (by decide), hW.2.2.2 (by rwa [Bool.not_eq_true] at q)]; rfl
  have E4 : gX8_settles_133 (nI j) 1 M3 = some (us (us (us (us (us M4 197 8 0) 197 10 0) 203 0 0) 203 1 0) 197 14 0) := by
    rw [gX8_settles_133, show stA 1233 M3 201 1 (nI j) = some (us M3 201 1 (nI j)) from stA_n (j := 1) _ _ _ (by decide) (by decide), obs, i_0]
    exact d1
  have f197 : ∀ i, i ≠ 0 → i ≠ 4 → M4 197 i = M 197 i := fun i z0 z4 => by rw [d4 _ (by decide), us_ne _ _ _ (by decide), c3 _ (by decide), us_app, if_neg (fun z => z4 z.2), b4 _ (by decide), a4 _ (by decide) (by decide), us_app, if_neg (fun z => z0 z.2)]
  have fo : ∀ (i : Nat), i ≠ 8 → i ≠ 10 → i ≠ 14 → us (us (us (us (us M4 197 8 0) 197 10 0) 203 0 0) 203 1 0) 197 14 0 197 i = M4 197 i := fun i z1 z2 z3 => by rw [us_app, if_neg (fun z => z3 z.2), us_ne _ _ _ (by decide), us_ne _ _ _ (by decide), us_app, if_neg (fun z => z2 z.2), us_app, if_neg (fun z => z1 z.2)]
  have fa : ∀ a, a ≠ 197 → a ≠ 203 → us (us (us (us (us M4 197 8 0) 197 10 0) 203 0 0) 203 1 0) 197 14 0 a = M4 a := fun a z1 z2 => by rw [us_ne _ _ _ z1, us_ne _ _ _ z2, us_ne _ _ _ z2, us_ne _ _ _ z1, us_ne _ _ _ z1]
  have fm : ∀ a, a ≠ 197 → a ≠ 201 → M4 a = M2 a := fun a z1 z2 => by rw [d4 a z2, us_ne _ _ _ z2, c3 a z2, us_ne _ _ _ z1]
  have f201 : ∀ k, k < 1233 → M4 201 k = if k = 1 then nI j else if 67 ≤ k ∧ k < 72 then -9 else 0 := fun k hk => by
    by_cases q : 67 ≤ k ∧ k < 72
    · rw [if_neg (by omega), if_pos q]
      have := d2 (k - 67) (by omega)
      rwa [show 67 + (k - 67) = k by omega] at this
    · rw [if_neg q, d3 k (by omega), us_app]
      by_cases q1 : k = 1
      · rw [if_pos ⟨rfl, q1⟩, if_pos q1]
      · rw [if_neg (fun z => q1 z.2), if_neg q1]; exact c2 k hk
  refine ⟨_, ((E1.trans E2).trans E3).trans E4, ?_, ⟨?_, ?_, fun p hp => ?_, fun p hp => ?_, fun p hp k hk => ?_⟩, ?_, ⟨?_, ?_, fun p hp => ?_, fun p hp => ?_, fun p hp k hk => absurd hk (Nat.not_lt_zero k), fun q hq t ht => ?_⟩, fun i hi => ?_, ?_, ?_, ?_⟩
  · rw [fo _ (by decide) (by decide) (by decide), f197 _ (by decide) (by decide)]
  · rw [fo _ (by decide) (by decide) (by decide), d4 _ (by decide), us_ne _ _ _ (by decide), c3 _ (by decide), us_app, if_neg (by decide), b4 _ (by decide), a4 _ (by decide) (by decide), us_app, if_pos ⟨rfl, rfl⟩]
  · rw [fo _ (by decide) (by decide) (by decide), d4 _ (by decide), us_ne _ _ _ (by decide), c3 _ (by decide), us_app, if_pos ⟨rfl, rfl⟩]
  · rw [fa _ (by decide) (by decide), fm _ (by decide) (by decide), b4 _ (by decide), (a3 p (by omega) (by omega)).1, us_ne _ _ _ (by decide)]; exact h4 p hp
  · rw [fa _ (by decide) (by decide), fm _ (by decide) (by decide), b4 _ (by decide), (a3 p (by omega) (by omega)).2, us_ne _ _ _ (by decide)]; exact h5 p hp
  · have := hW.1.2.2.2.2.1 p hp
    rw [fa _ (by decide) (by decide), fm _ (by decide) (by decide), b3 _ (by omega) (by omega), a4 _ (by decide) (by decide), us_ne _ _ _ (by decide)]; exact h6 p hp k hk
  · rw [fa _ (by decide) (by decide), f201 _ (by decide)]; rfl
  · rw [fa _ (by decide) (by decide), f201 _ (by decide)]; rfl
  · rw [fa _ (by decide) (by decide), f201 _ (by decide)]; rfl
  · rw [fa _ (by decide) (by decide), f201 _ (by omega), if_neg (by omega), if_neg (by omega)]; rfl
  · rw [fa _ (by decide) (by decide), f201 _ (by omega), if_neg (by omega), if_pos (by omega)]; rfl
  · rw [fa _ (by decide) (by decide), f201 _ (by omega), if_neg (by omega), if_neg (by omega)]; rfl
  · rw [us_ne _ _ _ (by decide), us_app]
    by_cases q : i = 1
    · rw [if_pos ⟨rfl, q⟩]
    · rw [if_neg (fun z => q z.2), us_app, if_pos ⟨rfl, by omega⟩]
  · rw [us_app, if_neg (by decide), us_ne _ _ _ (by decide), us_ne _ _ _ (by decide), us_app, if_neg (by decide), us_app, if_pos ⟨rfl, rfl⟩]; rfl
  · rw [us_app, if_neg (by decide), us_ne _ _ _ (by decide), us_ne _ _ _ (by decide), us_app, if_pos ⟨rfl, rfl⟩]; rfl
  · rw [us_app, if_pos ⟨rfl, rfl⟩]; rfl
theorem WfB_0 {pe lg j : Nat} (hj : j < 4) : WfB pe lg (B0 j) := ⟨Nat.zero_le _, hj, fun _ _ => Nat.zero_le _, fun _ _ => Nat.zero_le _, fun _ _ _ _ => (by decide : (0 : Nat) < 10), fun _ _ _ _ => Nat.zero_le _⟩
theorem neg10 {s : Nat} (h : s ≤ 120) : ¬ (0 : Int32) ≤ -10 - nI s := (show ∀ s, s < 121 → ¬ (0 : Int32) ≤ -10 - nI s by decide +kernel) s (by omega)
theorem sim_shop : Sim_shop II := by
  intro MC TC MM TM hI
  obtain ⟨rfl, A, hW, hC, hM⟩ := hI
  have hX : WfX (aX A) := hW.1
  have hN := hX.1
  -- both begin
  generalize hC0 : us (us (us (us (us (us MC 4 3 0) 4 4 12) 4 5 0) 1 6 0) 1 7 0) 1 2 0 = C0
  generalize hM0 : us (us (us (us (us (us MM 197 15 0) 197 19 0) 197 20 0) 197 21 0) 197 25 (-1)) 197 26 (-1) = M0
  have sC0 : ScC MC C0 := by
    rw [← hC0]
    exact (((((us_scC MC 3 _ (by decide) (by decide)).tr (us_scC _ 4 _ (by decide) (by decide))).tr (us_scC _ 5 _ (by decide) (by decide))).tr (us_scC _ 6 _ (by decide) (by decide))).tr (us_scC _ 7 _ (by decide) (by decide))).tr (us_scC _ 2 _ (by decide) (by decide))
  have sM0 : ScM MM M0 := by
    rw [← hM0]
    exact (((((us_scM MM _ (by decide)).tr (us_scM _ _ (by decide))).tr (us_scM _ _ (by decide))).tr (us_scM _ _ (by decide))).tr (us_scM _ _ (by decide))).tr (us_scM _ _ (by decide))
  have dC0 : DC C0 (0, 12, (fun _ => 0), (fun _ => 0), fun _ _ => 0) 0 false false := by
    rw [← hC0]
    refine ⟨?_, ?_, ?_, fun p hp => absurd hp (Nat.not_lt_zero p), fun p hp => absurd hp (Nat.not_lt_zero p), fun p hp => absurd hp (Nat.not_lt_zero p), ?_, ?_⟩
    · rw [us_ne _ _ _ (by decide), us_ne _ _ _ (by decide), us_ne _ _ _ (by decide), us_app, if_neg (by decide), us_app, if_neg (by decide), us_app, if_pos ⟨rfl, rfl⟩]; rfl
    · rw [us_ne _ _ _ (by decide), us_ne _ _ _ (by decide), us_ne _ _ _ (by decide), us_app, if_neg (by decide), us_app, if_pos ⟨rfl, rfl⟩]; rfl
    · rw [us_ne _ _ _ (by decide), us_ne _ _ _ (by decide), us_ne _ _ _ (by decide), us_app, if_pos ⟨rfl, rfl⟩]; rfl
    · rw [us_app, if_neg (by decide), us_app, if_neg (by decide), us_app, if_pos ⟨rfl, rfl⟩]; rfl
    · rw [us_app, if_neg (by decide), us_app, if_pos ⟨rfl, rfl⟩]; rfl
  have dM0 : DM M0 (0, 12, (fun _ => 0), (fun _ => 0), fun _ _ => 0) 0 false false := by
    rw [← hM0]
    refine ⟨?_, ?_, ?_, fun p hp => absurd hp (Nat.not_lt_zero p), fun p hp => absurd hp (Nat.not_lt_zero p), fun p hp => absurd hp (Nat.not_lt_zero p)⟩
    · rw [us_app, if_neg (by decide), us_app, if_neg (by decide), us_app, if_pos ⟨rfl, rfl⟩]; rfl
    · rw [us_app, if_neg (by decide), us_app, if_pos ⟨rfl, rfl⟩]; rfl
    · rw [us_app, if_pos ⟨rfl, rfl⟩]; rfl
  have c32 : C0 1 2 = nI 0 := by rw [← hC0, us_app, if_pos ⟨rfl, rfl⟩]; rfl
  have m15 : M0 197 15 = nI 0 := by rw [← hM0, us_app, if_neg (by decide), us_app, if_neg (by decide), us_app, if_neg (by decide), us_app, if_neg (by decide), us_app, if_neg (by decide), us_app, if_pos ⟨rfl, rfl⟩]; rfl
  have m19 : M0 197 19 = 0 := by rw [← hM0, us_app, if_neg (by decide), us_app, if_neg (by decide), us_app, if_neg (by decide), us_app, if_neg (by decide), us_app, if_pos ⟨rfl, rfl⟩]
  have m20 : M0 197 20 = nI 0 := by rw [← hM0, us_app, if_neg (by decide), us_app, if_neg (by decide), us_app, if_neg (by decide), us_app, if_pos ⟨rfl, rfl⟩]; rfl
  obtain ⟨C1, M1, st1, kind1, val1, nx1, a1, a2, a3, a4, a5, a6⟩ := both_adv hX (Nat.zero_le _) (hC.1.sc sC0) (hM.1.sc sM0) c32 m15
  have hWD : WfD (0, 12, (fun _ => 0), (fun _ => 0), fun _ _ => 0) 0 false false := ⟨⟨by decide, by decide, by decide, fun p hp => absurd hp (Nat.not_lt_zero p), fun p hp => absurd hp (Nat.not_lt_zero p), fun p hp => absurd hp (Nat.not_lt_zero p)⟩, by decide, fun _ => rfl, fun _ => rfl⟩
  have hst1 := a3.2.2.2.1
  have hall := both_items hX ((aX A).1 + 1) 0 st1 kind1 val1 nx1 FU FU C1 M1 _ 0 false false (by omega) (by unfold FU; omega) (by unfold FU; omega) (by omega) (hC.1.sc (sC0.tr a5.sc)) (hM.1.sc (sM0.tr a6.sc)) a3 (by rw [a6.1 19 (by decide)]; exact m19) (by rw [a6.1 20 (by decide)]; exact m20) (dC0.fr a5) (dM0.fr a6) hWD
  have eC : gX2_tellAll MC = gX2_tellAll_28 FU (nI 0) C1 := by
    rw [gX2_tellAll, gX6_begin, obs, obs, obs, obs, obs, obs, obs, hC0, a1, obs]; rfl
  have eM : gX8_shop MM = gX8_shop_34 FU M1 := by
    rw [gX8_shop, obs, obs, obs, obs, obs, obs, hM0, a2, obs]
  rcases hall with ⟨C2, M2, st', q1, q2, q3, q4, q5⟩ | ⟨C2, M2, items', W', j', lt', jt', q1, q2, q3, q4, q5, q6, q7, q8, q9, q10⟩
  · -- refused
    have sC : ScC MC C2 := (sC0.tr a5.sc).tr q4
    have sM : ScM MM M2 := (sM0.tr a6.sc).tr q5
    refine ⟨(-10 - nI st', C2), (-10 - nI st', M2), ?_, eM.trans q3, rfl, rfl, A, hW, hC.cg hW (sC _ (by decide)) (sC _ (by decide)) (fun a z1 z2 => sC a (by omega)) (congrFun (sC 185 (by decide)) 3) (congrFun (sC 185 (by decide)) 4) (fun a z1 z2 => sC a (by omega)), hM.cg (fun i hi => sM.1 i (by omega)) (fun a z1 z2 => sM.2 a (by omega) (by omega))⟩
    rw [gX7_shop, eC, q2, obs, if_neg (show ¬ (0 : Int32) ≤ (-10 - nI st', C2).1 from neg10 (by omega))]
  · -- settled
    have sC : ScC MC C2 := (sC0.tr a5.sc).tr q9
    obtain ⟨C3, u1, u2, u3, u4⟩ := c_town q6 q8
    obtain ⟨C4, v1, v2, v3, v4⟩ := c_beg (M := us C3 2 1 0) (j := j') (pe := tP W') q8.1.1
    obtain ⟨M3, w1, w2, w3, w4, w5, w6, w7, w8, w9⟩ := m_settles q7 q8
    have fr : ∀ a, a ≠ 2 → (a = 0 ∨ a = 3 ∨ 14 ≤ a) → a ≠ 180 → a ≠ 181 → (a < 191 ∨ 195 ≤ a) → us (us (us (us C4 181 3 0) 181 4 0) 180 0 0) 180 1 0 a = MC a := fun a z1 z2 z3 z4 z5 => by rw [us_ne _ _ _ z3, us_ne _ _ _ z3, us_ne _ _ _ z4, us_ne _ _ _ z4, v4 a (by omega) (by omega), us_ne _ _ _ z1, u4 a z5, sC a (by omega)]
    have frT : ∀ a, 191 ≤ a → a < 195 → us (us (us (us C4 181 3 0) 181 4 0) 180 0 0) 180 1 0 a = C3 a := fun a z1 z2 => by rw [us_ne _ _ _ (by omega), us_ne _ _ _ (by omega), us_ne _ _ _ (by omega), us_ne _ _ _ (by omega), v4 a (by omega) (by omega), us_ne _ _ _ (by omega)]
    have fr9 : ∀ a, 8 ≤ a → a < 14 → us (us (us (us C4 181 3 0) 181 4 0) 180 0 0) 180 1 0 a = C4 a := fun a z1 z2 => by rw [us_ne _ _ _ (by omega), us_ne _ _ _ (by omega), us_ne _ _ _ (by omega), us_ne _ _ _ (by omega)]
    obtain ⟨σ, hs, ht⟩ := hC.2.2.1
    refine ⟨(nI items', us (us (us (us C4 181 3 0) 181 4 0) 180 0 0) 180 1 0), (nI items', M3), ?_, ?_, rfl, rfl, ((0, (aX A).2), W', (0, B0 j', fun _ => B0 j'), ((fun _ => false), (aI A).2), (0, (aS A).2), (0, (aH A).2)), ⟨⟨Nat.zero_le _, fun i hi => absurd hi (Nat.not_lt_zero i)⟩, q8.1, ⟨Nat.zero_le _, WfB_0 q8.2.1, fun i hi => absurd hi (Nat.not_lt_zero i)⟩, fun i hi hq => absurd (show false = true from hq) (by decide), ⟨Nat.zero_le _, fun i hi => absurd hi (Nat.not_lt_zero i)⟩, ⟨Nat.zero_le _, fun i hi => absurd hi (Nat.not_lt_zero i), fun i hi => absurd hi (Nat.not_lt_zero i)⟩⟩, ⟨⟨?_, fun i hi => absurd hi (Nat.not_lt_zero i)⟩, ?_, ⟨σ, hs.cg ?_, ?_, ?_, fun i hi => absurd hi (Nat.not_lt_zero i)⟩, ⟨fun i hi => ?_, fun i hi => ?_, fun i hi => ?_⟩, ⟨?_, fun i hi => absurd hi (Nat.not_lt_zero i)⟩, ⟨?_, fun i hi => absurd hi (Nat.not_lt_zero i), fun i hi => absurd hi (Nat.not_lt_zero i)⟩, ?_⟩, ⟨⟨w9, fun i hi => absurd hi (Nat.not_lt_zero i)⟩, w3, ⟨w4, w5, fun i hi => absurd hi (Nat.not_lt_zero i)⟩, ⟨fun i hi => w6 i hi, fun i hi hq => absurd (show false = true from hq) (by decide)⟩, ⟨w7, fun i hi => absurd hi (Nat.not_lt_zero i)⟩, ⟨w8, fun i hi => absurd hi (Nat.not_lt_zero i), fun i hi => absurd hi (Nat.not_lt_zero i)⟩⟩⟩
    · rw [gX7_shop, eC, q2, obs, if_pos (show (0 : Int32) ≤ (nI items', C2).1 from nI_pos' (n := items') (by omega)), show gX6_copyFrom 191 4 (nI items', C2).2 = some C3 from u1, obs, obs, show us C3 2 1 0 191 5 = nI j' by rw [us_ne _ _ _ (by decide)]; exact u3, v1, obs, gX0_drop, obs, obs, obs]
      exact c_shop59 _
    · rw [eM, q3, gX8_shop_65, if_pos q4, w1, obs, w2, q5]
    · show us (us (us (us C4 181 3 0) 181 4 0) 180 0 0) 180 1 0 2 1 = nI 0
      rw [us_ne _ _ _ (by decide), us_ne _ _ _ (by decide), us_ne _ _ _ (by decide), us_ne _ _ _ (by decide), v4 _ (by decide) (by decide), us_app, if_pos ⟨rfl, rfl⟩]; rfl
    · exact u2.cg (fun a z1 z2 => frT a z1 z2)
    · exact fr (8 + 6) (by decide) (by decide) (by decide) (by decide) (by decide)
    · show us (us (us (us C4 181 3 0) 181 4 0) 180 0 0) 180 1 0 8 2 = nI 0
      rw [fr9 _ (by decide) (by decide)]; exact v2
    · exact v3.cg (fun a z1 z2 => fr9 a (by omega) (by omega))
    · show us (us (us (us C4 181 3 0) 181 4 0) 180 0 0) 180 1 0 65 i = _
      rw [fr _ (by decide) (by decide) (by decide) (by decide) (by decide)]; exact hC.2.2.2.1.1 i hi
    · show us (us (us (us C4 181 3 0) 181 4 0) 180 0 0) 180 1 0 180 i = bZ false
      rw [us_app]
      by_cases q : i = 1
      · rw [if_pos ⟨rfl, q⟩]; rfl
      · rw [if_neg (fun z => q z.2), us_app, if_pos ⟨rfl, by omega⟩]; rfl
    · obtain ⟨τ, t1, t2⟩ := hC.2.2.2.1.2.2 i hi
      exact ⟨τ, t1.cg (fr _ (by omega) (by omega) (by omega) (by omega) (by omega)), fun hq => absurd hq (by show ¬ false = true; decide)⟩
    · show us (us (us (us C4 181 3 0) 181 4 0) 180 0 0) 180 1 0 181 3 = nI 0
      rw [us_ne _ _ _ (by decide), us_ne _ _ _ (by decide), us_app, if_neg (by decide), us_app, if_pos ⟨rfl, rfl⟩]; rfl
    · show us (us (us (us C4 181 3 0) 181 4 0) 180 0 0) 180 1 0 181 4 = nI 0
      rw [us_ne _ _ _ (by decide), us_ne _ _ _ (by decide), us_app, if_pos ⟨rfl, rfl⟩]; rfl
    · exact hC.2.2.2.2.2.2.cg (congrFun (fr 185 (by decide) (by decide) (by decide) (by decide) (by decide)) 3) (congrFun (fr 185 (by decide) (by decide) (by decide) (by decide) (by decide)) 4)
