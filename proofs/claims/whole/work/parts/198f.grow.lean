def hrw (W : Twn) (B : Blk) (p i : Nat) : Nat := if i < bS B p then bH B p i else th W B p (i - bS B p)
theorem hrw_lt {W : Twn} {B : Blk} (hWT : WfT W) (hW : WfB (tP W) (tL W) B) {p : Nat} (hp : p < tP W) (i : Nat) : hrw W B p i < 10 := by
  unfold hrw
  by_cases h : i < bS B p
  · rw [if_pos h]; exact hW.2.2.2.2.1 p hp i h
  · rw [if_neg h]; exact th_lt hWT hW hp _
theorem c_gr64 {W : Twn} {B : Blk} {p n : Nat} (hWT : WfT W) (hW : WfB (tP W) (tL W) B) (hp : p < tP W) (hn : n ≤ 20) : ∀ fu i, i ≤ n → n - i < fu → ∀ (M : Mem), ToC M W → MoC M 9 (tP W) B → M 185 5 = nI (bS B p) → (∀ j, j < bS B p + i → M 188 j = nI (hrw W B p j)) → ∃ M', gX3_grow_64 191 9 fu (nI p) (nI n) (nI i) M = some M' ∧ (∀ j, j < bS B p + n → M' 188 j = nI (hrw W B p j)) ∧ ∀ a, a ≠ 188 → M' a = M a := by
  have hs := hW.2.2.1 p hp
  have hlg := hWT.2.2.1
  intro fu
  induction fu with
  | zero => intro i _ h2; omega
  | succ fu ih =>
    intro i h1 h2 M hC h h5 hr
    rw [gX3_grow_64]
    by_cases hi : n ≤ i
    · exact ⟨M, by rw [if_pos (nI_le hi (by omega))], fun j hj => hr j (by omega), fun a _ => rfl⟩
    · obtain ⟨M', e1, e2, e3⟩ := ih (i + 1) (by omega) (by omega) (us M 188 (bS B p + i) (nI (th W B p i))) (hC.cg (fun a q1 q2 => us_ne _ _ _ (by omega))) (h.cg (fun a q1 q2 => us_ne _ _ _ (by omega))) (by rw [us_ne _ _ _ (by decide)]; exact h5) (fun j hj => by
        rw [us_app]
        by_cases hq : j = bS B p + i
        · rw [if_pos ⟨rfl, hq⟩]
          unfold hrw
          rw [if_neg (by omega), show j - bS B p = i by omega]
        · rw [if_neg (fun z => hq z.2)]; exact hr j (by omega))
      refine ⟨M', ?_, e2, fun a ha => by rw [e3 a ha, us_ne _ _ _ ha]⟩
      rw [if_neg (nI_ge (by omega) (by omega)), c_th (o := 9) hWT hC hW h hp (by omega), Option.bind_some, h5, nI_add, stA_n _ _ _ (by omega) (by decide), Option.bind_some, nI_1, Option.bind_some]
      exact e1
theorem c_gr32 {W : Twn} {B : Blk} {p n : Nat} (hWT : WfT W) (hW : WfB (tP W) (tL W) B) (hp : p < tP W) (hn : n ≤ 20) : ∀ fu i, i ≤ bS B p → bS B p - i < fu → ∀ (M : Mem), ToC M W → MoC M 9 (tP W) B → M 185 5 = nI (bS B p) → (∀ j, j < i → M 188 j = nI (hrw W B p j)) → ∃ M', gX3_grow_32 191 9 fu (nI p) (nI n) (nI i) M = some M' ∧ (∀ j, j < bS B p + n → M' 188 j = nI (hrw W B p j)) ∧ ∀ a, a ≠ 188 → M' a = M a := by
  have hs := hW.2.2.1 p hp
  have hlg := hWT.2.2.1
  have hpe := hWT.1
  intro fu
  induction fu with
  | zero => intro i _ h2; omega
  | succ fu ih =>
    intro i h1 h2 M hC h h5 hr
    rw [gX3_grow_32, h5]
    by_cases hi : bS B p ≤ i
    · obtain ⟨M', e1, e2, e3⟩ := c_gr64 hWT hW hp hn FU 0 (by omega) (by unfold FU; omega) M hC h h5 (fun j hj => hr j (by omega))
      refine ⟨M', ?_, e2, e3⟩
      rw [if_pos (nI_le hi (by omega)), i_0]
      exact e1
    · obtain ⟨M', e1, e2, e3⟩ := ih (i + 1) (by omega) (by omega) (us M 188 i (nI (bH B p i))) (hC.cg (fun a q1 q2 => us_ne _ _ _ (by omega))) (h.cg (fun a q1 q2 => us_ne _ _ _ (by omega))) (by rw [us_ne _ _ _ (by decide)]; exact h5) (fun j hj => by
        rw [us_app]
        by_cases hq : j = i
        · rw [if_pos ⟨rfl, hq⟩]
          unfold hrw
          rw [if_pos (by omega), hq]
        · rw [if_neg (fun z => hq z.2)]; exact hr j (by omega))
      refine ⟨M', ?_, e2, fun a ha => by rw [e3 a ha, us_ne _ _ _ ha]⟩
      rw [if_neg (nI_ge (by omega) (by omega)), c_layer (o := 9) hpe hlg hW h hp (by omega), Option.bind_some, stA_n _ _ _ (by omega) (by decide), Option.bind_some, nI_1, Option.bind_some]
      exact e1
theorem c_gr {W : Twn} {B : Blk} {p n : Nat} {M : Mem} (hWT : WfT W) (hW : WfB (tP W) (tL W) B) (hp : p < tP W) (hn : n ≤ 20) (hC : ToC M W) (h : MoC M 9 (tP W) B) : ∃ M', gX3_grow 191 9 (nI p) (nI n) M = some M' ∧ M' 185 5 = nI (bS B p) ∧ M' 185 6 = nI (bS B p + n) ∧ M' 185 7 = nI (tL W) ∧ M' 185 3 = M 185 3 ∧ M' 185 4 = M 185 4 ∧ (∀ j, j < bS B p + n → M' 188 j = nI (hrw W B p j)) ∧ ∀ a, a ≠ 185 → a ≠ 188 → M' a = M a := by
  have hs := hW.2.2.1 p hp
  have hlg := hWT.2.2.1
  have hpe := hWT.1
  obtain ⟨M', e1, e2, e3⟩ := c_gr32 hWT hW hp hn FU 0 (by omega) (by unfold FU; omega) (us (us (us M 185 7 (nI (tL W))) 185 5 (nI (bS B p))) 185 6 (nI (bS B p + n))) (hC.cg (fun a q1 q2 => by rw [us_ne _ _ _ (by omega), us_ne _ _ _ (by omega), us_ne _ _ _ (by omega)])) (h.cg (fun a q1 q2 => by rw [us_ne _ _ _ (by omega), us_ne _ _ _ (by omega), us_ne _ _ _ (by omega)])) (by rw [us_app, if_neg (by decide), us_app, if_pos ⟨rfl, rfl⟩]) (fun j hj => absurd hj (Nat.not_lt_zero j))
  have g1 : ldA 5 (us M 185 7 (nI (tL W)) (9 + 1)) (nI p) = some (nI (bS B p)) := by rw [us_ne _ _ _ (by decide)]; exact c_size (o := 9) hpe h hp
  refine ⟨M', ?_, ?_, ?_, ?_, ?_, ?_, e2, fun a ha hb => by rw [e3 a hb, us_ne _ _ _ ha, us_ne _ _ _ ha, us_ne _ _ _ ha]⟩
  · rw [gX3_grow, hC.2.1, obs, g1, obs, obs, show us (us M 185 7 (nI (tL W))) 185 5 (nI (bS B p)) 185 5 = nI (bS B p) by rw [us_app, if_pos ⟨rfl, rfl⟩], nI_add, obs, i_0]
    exact e1
  · rw [e3 _ (by decide), us_app, if_neg (by decide), us_app, if_pos ⟨rfl, rfl⟩]
  · rw [e3 _ (by decide), us_app, if_pos ⟨rfl, rfl⟩]
  · rw [e3 _ (by decide), us_app, if_neg (by decide), us_app, if_neg (by decide), us_app, if_pos ⟨rfl, rfl⟩]
  · rw [e3 _ (by decide), us_app, if_neg (by decide), us_app, if_neg (by decide), us_app, if_neg (by decide)]
  · rw [e3 _ (by decide), us_app, if_neg (by decide), us_app, if_neg (by decide), us_app, if_neg (by decide)]
theorem m_as19 {pe lg : Nat} {B : Blk} {p : Nat} (hpe : pe ≤ 5) (hlg : lg ≤ 12) (hW : WfB pe lg B) (hp : p < pe) : ∀ fu i, i ≤ bS B p → bS B p - i < fu → ∀ (M : Mem), MoM (M 201) 0 pe B → M 197 29 = nI (bS B p) → (∀ j, j < i → M 210 j = nI (bH B p j)) → ∃ M', gX8_asItIs_19 fu (nI p) (nI i) M = some M' ∧ (∀ j, j < bS B p → M' 210 j = nI (bH B p j)) ∧ ∀ a, a ≠ 210 → M' a = M a := by
  have hs := hW.2.2.1 p hp
  intro fu
  induction fu with
  | zero => intro i _ h2; omega
  | succ fu ih =>
    intro i h1 h2 M h h5 hr
    rw [gX8_asItIs_19, h5]
    by_cases hi : bS B p ≤ i
    · exact ⟨M, by rw [if_pos (nI_le hi (by omega))], fun j hj => hr j (by omega), fun a _ => rfl⟩
    · obtain ⟨M', e1, e2, e3⟩ := ih (i + 1) (by omega) (by omega) (us M 210 i (nI (bH B p i))) (by rw [us_ne _ _ _ (by decide)]; exact h) (by rw [us_ne _ _ _ (by decide)]; exact h5) (fun j hj => by
        rw [us_app]
        by_cases hq : j = i
        · rw [if_pos ⟨rfl, hq⟩, hq]
        · rw [if_neg (fun z => hq z.2)]; exact hr j (by omega))
      refine ⟨M', ?_, e2, fun a ha => by rw [e3 a ha, us_ne _ _ _ ha]⟩
      rw [if_neg (nI_ge (by omega) (by omega)), m_layer hpe hlg hW h hp (by omega), Option.bind_some, stA_n _ _ _ (by omega) (by decide), Option.bind_some, nI_1, Option.bind_some]
      exact e1
theorem m_as {M : Mem} {pe lg : Nat} {B : Blk} {p : Nat} (hpe : pe ≤ 5) (hlg : lg ≤ 12) (hW : WfB pe lg B) (hp : p < pe) (h : MoM (M 201) 0 pe B) : ∃ M', gX8_asItIs (nI p) M = some M' ∧ M' 197 28 = nI 0 ∧ M' 197 29 = nI (bS B p) ∧ (∀ j, j < bS B p → M' 210 j = nI (bH B p j)) ∧ (∀ j, j ≠ 28 → j ≠ 29 → M' 197 j = M 197 j) ∧ ∀ a, a ≠ 197 → a ≠ 210 → M' a = M a := by
  have hs := hW.2.2.1 p hp
  obtain ⟨M', e1, e2, e3⟩ := m_as19 hpe hlg hW hp FU 0 (by omega) (by unfold FU; omega) (us (us M 197 28 0) 197 29 (nI (bS B p))) (by rw [us_ne _ _ _ (by decide), us_ne _ _ _ (by decide)]; exact h) (by rw [us_app, if_pos ⟨rfl, rfl⟩]) (fun j hj => absurd hj (Nat.not_lt_zero j))
  have g1 : ldA 1233 (us M 197 28 0 201) (2 + nI p) = some (nI (bS B p)) := by rw [us_ne _ _ _ (by decide)]; exact m_size hpe h hp
  refine ⟨M', ?_, ?_, ?_, e2, ?_, fun a ha hb => by rw [e3 a hb, us_ne _ _ _ ha, us_ne _ _ _ ha]⟩
  · rw [gX8_asItIs, obs, g1, obs, obs]
    exact e1
  · rw [e3 _ (by decide), us_app, if_neg (by decide), us_app, if_pos ⟨rfl, rfl⟩]; rfl
  · rw [e3 _ (by decide), us_app, if_pos ⟨rfl, rfl⟩]
  · intro j h1 h2
    rw [e3 _ (by decide), us_app, if_neg (fun z => h2 z.2), us_app, if_neg (fun z => h1 z.2)]
theorem m_gt {M : Mem} {b e lg t : Nat} (h28 : M 197 28 = nI b) (h29 : M 197 29 = nI e) (h4 : M 197 4 = nI lg) (hb : b ≤ e) (he : e < 40) (hlg : lg ≤ 12) : ∃ M', gX8_growsTried (nI t) M = some M' ∧ M' 197 28 = nI (if e - b = lg then b + 1 else b) ∧ M' 197 29 = nI (e + 1) ∧ M' 210 e = nI t ∧ (∀ j, j ≠ e → M' 210 j = M 210 j) ∧ (∀ j, j ≠ 28 → j ≠ 29 → M' 197 j = M 197 j) ∧ ∀ a, a ≠ 197 → a ≠ 210 → M' a = M a := by
  have key : ∀ (b' : Nat) (y0 : Int32), nI b + y0 = nI b' → ∃ M', gX8_growsTried_26 (nI t) y0 (nI b) M = some M' ∧ M' 197 28 = nI b' ∧ M' 197 29 = nI (e + 1) ∧ M' 210 e = nI t ∧ (∀ j, j ≠ e → M' 210 j = M 210 j) ∧ (∀ j, j ≠ 28 → j ≠ 29 → M' 197 j = M 197 j) ∧ ∀ a, a ≠ 197 → a ≠ 210 → M' a = M a := by
    intro b' y0 hy
    refine ⟨us (us (us M 197 28 (nI b')) 210 e (nI t)) 197 29 (nI (e + 1)), ?_, ?_, ?_, ?_, fun j hj => ?_, fun j h1 h2 => ?_, fun a h1 h2 => ?_⟩
    · rw [gX8_growsTried_26, hy, obs, show us M 197 28 (nI b') 197 29 = nI e by rw [us_app, if_neg (by decide)]; exact h29, stA_n _ _ _ he (by decide), obs, show us (us M 197 28 (nI b')) 210 e (nI t) 197 29 = nI e by rw [us_ne _ _ _ (by decide), us_app, if_neg (by decide)]; exact h29, nI_1, obs]
    · rw [us_app, if_neg (by decide), us_ne _ _ _ (by decide), us_app, if_pos ⟨rfl, rfl⟩]
    · rw [us_app, if_pos ⟨rfl, rfl⟩]
    · rw [us_ne _ _ _ (by decide), us_app, if_pos ⟨rfl, rfl⟩]
    · rw [us_ne _ _ _ (by decide), us_app, if_neg (fun z => hj z.2), us_ne _ _ _ (by decide)]
    · rw [us_app, if_neg (fun z => h2 z.2), us_ne _ _ _ (by decide), us_app, if_neg (fun z => h1 z.2)]
    · rw [us_ne _ _ _ h1, us_ne _ _ _ h2, us_ne _ _ _ h1]
  rw [gX8_growsTried, h29, h28, h4, pk_sub hb]
  by_cases hq : e - b = lg
  · rw [if_pos (congrArg nI hq), if_pos hq]
    exact key (b + 1) 1 (nI_1 b)
  · rw [if_neg (fun q => hq (nI_inj (by omega) (by omega) q)), if_neg hq]
    exact key b 0 (by rw [i_0, nI_add]; rfl)
