-- now
theorem c_all_l {M : Mem} {W : Twn} {B : Blk} (hWT : WfT W) (hC : ToC M W) (h : MoC M 9 (tP W) B) : ∀ n i, i ≤ tP W → tP W - i < n → gX7_layersOfAll_4 n (nI (smN (bS B) i)) (nI i) M = some (nI (smN (bS B) (tP W))) := by
  have hpe := hWT.1
  intro n
  induction n with
  | zero => intro i _ h2; omega
  | succ n ih =>
    intro i h1 h2
    rw [gX7_layersOfAll_4, hC.1]
    by_cases hi : tP W ≤ i
    · rw [if_pos (nI_le hi (by omega)), show tP W = i by omega]
    · have s3 : ldA 5 (M 10) (nI i) = some (nI (bS B i)) := c_size (o := 9) hpe h (by omega)
      rw [if_neg (nI_ge (by omega) (by omega)), s3, Option.bind_some, nI_add, Option.bind_some, nI_1, Option.bind_some]
      exact ih (i + 1) (by omega) (by omega)
theorem c_swall_l {M : Mem} {pe lg : Nat} {B : Blk} (hW : WfB pe lg B) (h : MoC M 9 pe B) : ∀ n i, i ≤ 4 → 4 - i < n → gX7_sweptIntoAll_4 n (nI (smN (fun j => smN (bJ B j) 10) i)) (nI i) M = some (nI (smN (fun j => smN (bJ B j) 10) 4)) := by
  intro n
  induction n with
  | zero => intro i _ h2; omega
  | succ n ih =>
    intro i h1 h2
    rw [gX7_sweptIntoAll_4]
    by_cases hi : 4 ≤ i
    · rw [if_pos (show (4 : Int32) ≤ nI i from nI_le (a := 4) hi (by omega)), show i = 4 by omega]
    · rw [if_neg (show ¬ (4 : Int32) ≤ nI i from nI_ge (b := 4) (by omega) (by omega)), c_sweptInto hW h (by omega), Option.bind_some, nI_add, Option.bind_some, nI_1, Option.bind_some]
      exact ih (i + 1) (by omega) (by omega)
def nowR (x1 d c l w : Int32) : Int32 := if x1 = 0 then d else if x1 = 1 then c else if x1 = 2 then l else if x1 = 3 then w else -1
theorem m_now37 {M : Mem} {pe : Nat} {B : Blk} {x1 x2 : Int32} (h : MoM (M 201) 0 pe B) : ∀ n i, i ≤ 4 → 4 - i < n → gX8_now_37 n x1 x2 (nI (smN (fun j => smN (bJ B j) 10) i)) (nI i) M = some (nowR x1 (nI (bD B)) (nI (bC B)) x2 (nI (smN (fun j => smN (bJ B j) 10) 4))) := by
  have e0 : M 201 0 = nI (bD B) := h.1
  have e1 : M 201 1 = nI (bC B) := h.2.1
  intro n
  induction n with
  | zero => intro i _ h2; omega
  | succ n ih =>
    intro i h1 h2
    rw [gX8_now_37]
    by_cases hi : 4 ≤ i
    · have hi4 : i = 4 := by omega
      subst hi4
      rw [if_pos (show (4 : Int32) ≤ nI 4 from nI_le (a := 4) (by omega) (by omega))]
      unfold nowR
      by_cases c0 : x1 = 0
      · rw [if_pos c0, if_pos c0, c0, gX8_now_88, i_0, ldA_n _ (by decide) (by decide), Option.bind_some, e0]
      · rw [if_neg c0, if_neg c0]
        by_cases c1 : x1 = 1
        · rw [if_pos c1, if_pos c1, c1, gX8_now_88, i_1, ldA_n _ (by decide) (by decide), Option.bind_some, e1]
        · rw [if_neg c1, if_neg c1]
          by_cases c2 : x1 = 2
          · rw [if_pos c2, if_pos c2]
          · rw [if_neg c2, if_neg c2]
            by_cases c3 : x1 = 3
            · rw [if_pos c3, if_pos c3]
            · rw [if_neg c3, if_neg c3]
    · rw [if_neg (show ¬ (4 : Int32) ≤ nI i from nI_ge (b := 4) (by omega) (by omega)), m_inJar h (by omega), Option.bind_some, nI_add, Option.bind_some, nI_1, Option.bind_some]
      exact ih (i + 1) (by omega) (by omega)
theorem m_now7 {M : Mem} {W : Twn} {B : Blk} {x1 : Int32} (hWT : WfT W) (hC : ToM M W) (h : MoM (M 201) 0 (tP W) B) : ∀ n i, i ≤ tP W → tP W - i < n → gX8_now_7 n x1 (nI (smN (bS B) i)) 0 (nI i) M = some (nowR x1 (nI (bD B)) (nI (bC B)) (nI (smN (bS B) (tP W))) (nI (smN (fun j => smN (bJ B j) 10) 4))) := by
  have hpe := hWT.1
  intro n
  induction n with
  | zero => intro i _ h2; omega
  | succ n ih =>
    intro i h1 h2
    rw [gX8_now_7, hC.1]
    by_cases hi : tP W ≤ i
    · rw [if_pos (nI_le hi (by omega)), show tP W = i by omega]
      exact m_now37 h FU 0 (by omega) (by unfold FU; omega)
    · rw [if_neg (nI_ge (by omega) (by omega)), m_size hpe h (by omega), Option.bind_some, nI_add, Option.bind_some, nI_1, Option.bind_some]
      exact ih (i + 1) (by omega) (by omega)
theorem sim_now : Sim_now II := by
  intro MC TC MM TM hI a1
  obtain ⟨rfl, A, hW, hC, hM⟩ := hI
  obtain ⟨σ, hs, ht⟩ := id hC.2.2.1
  have hpe := hW.2.1.1
  have s1 : gX7_layersOfAll MC = some _ := c_all_l hW.2.1 hC.2.1 ht.2.1 FU 0 (by omega) (by unfold FU; omega)
  have s2 : gX7_sweptIntoAll MC = some _ := c_swall_l hW.2.2.1.2.1 ht.2.1 FU 0 (by omega) (by unfold FU; omega)
  have r1 : gX8_now a1 MM = some _ := m_now7 (x1 := a1) hW.2.1 hM.2.1 hM.2.2.1.2.1 FU 0 (by omega) (by unfold FU; omega)
  have e0 : MC 9 4 = nI (bD (mB (aT A))) := ht.2.1.1
  have e1 : MC 9 5 = nI (bC (mB (aT A))) := ht.2.1.2.1
  refine ⟨_, _, ?_, r1, rfl, rfl, A, hW, hC, hM⟩
  simp only [gX7_now, s1, s2, Option.bind_some, e0, e1, nowR]
  repeat' split
  all_goals rfl
-- mark
theorem c_root {M : Mem} {o pe lg : Nat} {B : Blk} (hpe : pe ≤ 5) (hlg : lg ≤ 12) (hW : WfB pe lg B) (h : MoC M o pe B) {p : Nat} (hp : p < pe) : gX1_rootOf o (nI p) M = some (if bS B p = 0 then -1 else nI (bH B p (bS B p - 1))) := by
  have hs := hW.2.2.1 p hp
  rw [gX1_rootOf, c_size hpe h hp, Option.bind_some]
  by_cases h0 : bS B p = 0
  · rw [if_pos h0, h0, if_pos (show nI 0 ≤ (0 : Int32) by decide), gX1_rootOf_26]
  · rw [if_neg h0, if_neg (nI_nle (by omega) (by omega)), Option.bind_some, i_1, pk_sub (by omega), c_layer hpe hlg hW h hp (by omega), Option.bind_some, gX1_rootOf_26]
theorem T11 (T : Int64) : T + 10 + 1 = T + 11 := by rw [Int64.add_assoc]; rfl
theorem T101 (T : Int64) : T + 100 + 1 = T + 101 := by rw [Int64.add_assoc]; rfl
theorem T1011 (T : Int64) : T + 1000 + 10 + 1 = T + 1011 := by rw [Int64.add_assoc, Int64.add_assoc]; rfl
theorem T10101 (T : Int64) : T + 10000 + 100 + 1 = T + 10101 := by rw [Int64.add_assoc, Int64.add_assoc]; rfl
theorem T100001 (T : Int64) : T + 100000 + 1 = T + 100001 := by rw [Int64.add_assoc]; rfl
theorem sim_mark : Sim_mark II := by
  intro MC TC MM TM hI a1 a2
  obtain ⟨rfl, A, hW, hC, hM⟩ := hI
  obtain ⟨σ, hs, ht⟩ := id hC.2.2.1
  have hWT := hW.2.1
  have hpe := hWT.1
  have hlg := hWT.2.2.1
  have hWB := hW.2.2.1.2.1
  have hno : ∀ (T : Int64), gX8_mark_17 MM T = some (-1000000, T) := fun T => rfl
  rcases isOn a2 (by omega) hC.2.1.1 hM.2.1.1 with ⟨p, hp, rfl, k1, k2⟩ | ⟨k1, k2⟩
  · have hsz := hWB.2.2.1 p hp
    have s1 : ldA 5 (MC 10) (nI p) = some (nI (bS (mB (aT A)) p)) := c_size (o := 9) hpe ht.2.1 hp
    have s2 : ldA 5 (MC 192) (nI p) = some (nI (tS (aW A) p)) := by rw [ldA_n _ (by omega) (by decide), hC.2.1.2.2.1 p hp]
    have s3 := c_root (o := 9) hpe hlg hWB ht.2.1 hp
    have s4 : MC 9 4 = nI (bD (mB (aT A))) := ht.2.1.1
    have r1 := m_size hpe hM.2.2.1.2.1 hp
    have r2 : ldA 5 (MM 198) (nI p) = some (nI (tS (aW A) p)) := by rw [ldA_n _ (by omega) (by decide), hM.2.1.2.2.1 p hp]
    have r3 : ldA 1233 (MM 201) 0 = some (nI (bD (mB (aT A)))) := by rw [i_0, ldA_n _ (by decide) (by decide)]; exact congrArg some hM.2.2.1.2.1.1
    rcases wi a1 5 (by decide) with ⟨kd', hk, rfl, k3, k4⟩ | ⟨k3, k4⟩
    · replace k4 : gX8_in (nI kd') 0 5 = some 1 := k4
      have r4 : ∀ T, gX8_mark (nI kd') (nI p) MM T = gX8_mark_46 (nI kd') (nI p) (nI (bS (mB (aT A)) p)) (if bS (mB (aT A)) p = 0 then -1 else nI (bH (mB (aT A)) p (bS (mB (aT A)) p - 1))) (nI (bS (mB (aT A)) p)) MM T := by
        intro T
        simp only [gX8_mark, k2, k4, Option.bind_some, r1]
        by_cases h0 : bS (mB (aT A)) p = 0
        · rw [if_neg (by decide), if_neg (by decide), h0, if_pos (show nI 0 = (0 : Int32) from rfl), if_pos rfl]
        · rw [if_neg (by decide), if_neg (by decide), if_neg (nI_ne0 (by omega) (by omega)), if_neg h0, i_1, pk_sub (by omega), m_layer hpe hlg hWB hM.2.2.1.2.1 hp (by omega), Option.bind_some]
      rcases (show kd' = 0 ∨ kd' = 1 ∨ kd' = 2 ∨ kd' = 3 ∨ kd' = 4 ∨ kd' = 5 by omega) with rfl | rfl | rfl | rfl | rfl | rfl
      · refine ⟨(nI (bS (mB (aT A)) p), TC + 1), (nI (bS (mB (aT A)) p), TC + 1), ?_, ?_, rfl, rfl, A, hW, hC, hM⟩
        · simp only [gX7_mark, k1, Option.bind_some, gX7_markOne, s1]; rfl
        · rw [r4]; simp only [gX8_mark_46, Option.bind_some, r2]; rfl
      · refine ⟨(nI (bS (mB (aT A)) p) + (if bS (mB (aT A)) p = 0 then -1 else nI (bH (mB (aT A)) p (bS (mB (aT A)) p - 1))), TC + 11), (nI (bS (mB (aT A)) p) + (if bS (mB (aT A)) p = 0 then -1 else nI (bH (mB (aT A)) p (bS (mB (aT A)) p - 1))), TC + 11), ?_, ?_, rfl, rfl, A, hW, hC, hM⟩
        · simp only [gX7_mark, k1, Option.bind_some, gX7_markPoet, gX7_markOne, s1, s3, T11]; rfl
        · rw [r4]; simp only [gX8_mark_46, Option.bind_some, r2]; rfl
      · refine ⟨(nI (bS (mB (aT A)) p) - nI (tS (aW A) p), TC + 101), (nI (bS (mB (aT A)) p) - nI (tS (aW A) p), TC + 101), ?_, ?_, rfl, rfl, A, hW, hC, hM⟩
        · simp only [gX7_mark, k1, Option.bind_some, gX7_markBride, gX7_markOne, s1, s2, T101]; rfl
        · rw [r4]; simp only [gX8_mark_46, Option.bind_some, r2]; rfl
      · refine ⟨((nI (bS (mB (aT A)) p) + (if bS (mB (aT A)) p = 0 then -1 else nI (bH (mB (aT A)) p (bS (mB (aT A)) p - 1)))) * 2, TC + 1011), ((nI (bS (mB (aT A)) p) + (if bS (mB (aT A)) p = 0 then -1 else nI (bH (mB (aT A)) p (bS (mB (aT A)) p - 1)))) * 2, TC + 1011), ?_, ?_, rfl, rfl, A, hW, hC, hM⟩
        · simp only [gX7_mark, k1, Option.bind_some, gX7_markWig, gX7_markPoet, gX7_markOne, s1, s3, T1011]; rfl
        · rw [r4]; simp only [gX8_mark_46, Option.bind_some, r2, Int32.mul_comm 2]; rfl
      · refine ⟨(nI (bS (mB (aT A)) p) - nI (tS (aW A) p) + nI p, TC + 10101), (nI (bS (mB (aT A)) p) - nI (tS (aW A) p) + nI p, TC + 10101), ?_, ?_, rfl, rfl, A, hW, hC, hM⟩
        · simp only [gX7_mark, k1, Option.bind_some, gX7_markNun, gX7_markBride, gX7_markOne, s1, s2, T10101]; rfl
        · rw [r4]; simp only [gX8_mark_46, Option.bind_some, r2]; rfl
      · refine ⟨(nI (bS (mB (aT A)) p) + nI (bD (mB (aT A))), TC + 100001), (nI (bS (mB (aT A)) p) + nI (bD (mB (aT A))), TC + 100001), ?_, ?_, rfl, rfl, A, hW, hC, hM⟩
        · simp only [gX7_mark, k1, Option.bind_some, gX7_markBald, gX7_markOne, s1, s4, T100001]; rfl
        · rw [r4]; simp only [gX8_mark_46, Option.bind_some, r2, r3]; rfl
    · replace k3 : gX7_within a1 0 5 = some 0 := k3
      replace k4 : gX8_in a1 0 5 = some 0 := k4
      have hne : ∀ j, j ≤ 5 → a1 ≠ nI j := by
        intro j hj e
        rw [e] at k3
        have := within_t ((rng2 (x := nI j) (n := 5) (by decide)).mpr ⟨j, hj, rfl⟩)
        rw [show gX7_within (nI j) 0 5 = gX7_within (nI j) (nI 0) (nI 5) from rfl, this] at k3
        exact absurd (Option.some.inj k3) (by decide)
      refine ⟨(-1000000, TC), (-1000000, TC), ?_, ?_, rfl, rfl, A, hW, hC, hM⟩
      · simp only [gX7_mark, k1, Option.bind_some]
        rw [if_neg (by decide), if_neg (show ¬ a1 = 0 from hne 0 (by omega)), if_neg (show ¬ a1 = 1 from hne 1 (by omega)), if_neg (show ¬ a1 = 2 from hne 2 (by omega)), if_neg (show ¬ a1 = 3 from hne 3 (by omega)), if_neg (show ¬ a1 = 4 from hne 4 (by omega)), if_neg (show ¬ a1 = 5 from hne 5 (by omega))]
      · simp only [gX8_mark, k4, Option.bind_some]; rfl
  · refine ⟨(-1000000, TC), (-1000000, TC), ?_, ?_, rfl, rfl, A, hW, hC, hM⟩
    · simp only [gX7_mark, k1, Option.bind_some]; rfl
    · rcases wi a1 5 (by decide) with ⟨kd', hk, rfl, k3, k4⟩ | ⟨k3, k4⟩
      · replace k4 : gX8_in (nI kd') 0 5 = some 1 := k4
        simp only [gX8_mark, k4, k2, Option.bind_some]; rfl
      · replace k4 : gX8_in a1 0 5 = some 0 := k4
        simp only [gX8_mark, k4, Option.bind_some]; rfl
-- reads
def bst (f : Nat → Nat) : Nat → Int32 × Nat
  | 0 => (-9, 0)
  | n + 1 => if f n ≤ (bst f n).2 then bst f n else (nI n, f n)
theorem bst_le {f : Nat → Nat} {c : Nat} : ∀ n, (∀ k, k < n → f k ≤ c) → (bst f n).2 ≤ c
  | 0, _ => Nat.zero_le _
  | n + 1, h => by
    have := bst_le n (fun k hk => h k (by omega))
    unfold bst
    split
    · exact this
    · exact h n (by omega)
def blu (g : Nat → Prop) [DecidablePred g] : Nat → Int32
  | 0 => 0
  | n + 1 => if g n then blu g n ||| (1 <<< (nI n &&& 31)) else blu g n
theorem c_mostOf_l {M : Mem} {o N : Nat} {f : Nat → Nat} {c : Nat} (hN : N < 1000) (hc : c < 1000000) (hf : ∀ k, k < N → f k ≤ c) (h : ∀ k, k < N → M o k = nI (f k)) : ∀ n i, i ≤ N → N - i < n → gX7_mostOf_7 o N n (bst f i).1 (nI (bst f i).2) (nI i) M = some (bst f N).1 := by
  intro n
  induction n with
  | zero => intro i _ h2; omega
  | succ n ih =>
    intro i h1 h2
    have hb := bst_le (f := f) (c := c) i (fun k hk => hf k (by omega))
    rw [gX7_mostOf_7]
    by_cases hi : N ≤ i
    · rw [if_pos (show Int32.ofNat N ≤ nI i from nI_le hi (by omega)), show N = i by omega]
    · have hfi := hf i (by omega)
      have e := ih (i + 1) (by omega) (by omega)
      rw [bst] at e
      rw [if_neg (show ¬ Int32.ofNat N ≤ nI i from nI_ge (b := N) (by omega) (by omega)), ldA_n _ (by omega) (by omega), Option.bind_some, h i (by omega)]
      by_cases hq : f i ≤ (bst f i).2
      · rw [if_pos hq] at e
        rw [if_pos (nI_le hq (by omega)), gX7_mostOf_26, Option.bind_some, nI_1]
        exact e
      · rw [if_neg hq] at e
        rw [if_neg (nI_ge (by omega) (by omega)), Option.bind_some, gX7_mostOf_26, Option.bind_some, nI_1]
        exact e
theorem c_mostOf {M : Mem} {o N : Nat} {f : Nat → Nat} {c : Nat} (hN : N < 1000) (hc : c < 1000000) (hf : ∀ k, k < N → f k ≤ c) (h : ∀ k, k < N → M o k = nI (f k)) : gX7_mostOf o N M = some (bst f N).1 :=
  c_mostOf_l hN hc hf h FU 0 (by omega) (by unfold FU; omega)
theorem c_mostIn_l {pe lg : Nat} {B : Blk} {j : Nat} (hj : j < 4) (hW : WfB pe lg B) : ∀ n i, i ≤ 10 → 10 - i < n → ∀ (M : Mem), MoC M 9 pe B → (∀ k, k < i → M 195 k = nI (bJ B j k)) → ∃ M', gX7_mostIn_2 n (nI j) (nI i) M = some ((bst (bJ B j) 10).1, M') ∧ ∀ a, a ≠ 195 → M' a = M a := by
  intro n
  induction n with
  | zero => intro i _ h2; omega
  | succ n ih =>
    intro i h1 h2 M hM hk
    rw [gX7_mostIn_2]
    by_cases hi : 10 ≤ i
    · have hi4 : i = 10 := by omega
      subst hi4
      refine ⟨M, ?_, fun a _ => rfl⟩
      rw [if_pos (show (10 : Int32) ≤ nI 10 from nI_le (a := 10) (by omega) (by omega)), c_mostOf (c := 99) (by decide) (by decide) (fun k hk2 => hW.2.2.2.2.2 j hj k hk2) hk, Option.bind_some]
    · rw [if_neg (show ¬ (10 : Int32) ≤ nI i from nI_ge (b := 10) (by omega) (by omega)), c_swept hM hj (by omega), Option.bind_some, stA_n _ _ _ (by omega) (by decide), Option.bind_some, nI_1, Option.bind_some]
      obtain ⟨M', e1, e2⟩ := ih (i + 1) (by omega) (by omega) (us M 195 i (nI (bJ B j i))) (hM.cg (fun a q1 q2 => us_ne _ _ _ (by omega))) (fun k hk2 => by
        rw [us_app]
        by_cases hq : k = i
        · subst hq; rw [if_pos ⟨rfl, rfl⟩]
        · rw [if_neg (fun q => hq q.2)]; exact hk k (by omega))
      exact ⟨M', e1, fun a ha => by rw [e2 a ha, us_ne _ _ _ ha]⟩
theorem c_blush_l {M : Mem} {W : Twn} {B : Blk} {j : Nat} (hj : j < 4) (hWT : WfT W) (hC : ToC M W) (hW : WfB (tP W) (tL W) B) (h : MoC M 9 (tP W) B) : ∀ n i, i ≤ tP W → tP W - i < n → gX7_blushes_4 n (nI j) (blu (fun p => 0 < bJ B j (tS W p)) i) (nI i) M = some (blu (fun p => 0 < bJ B j (tS W p)) (tP W)) := by
  have hpe := hWT.1
  intro n
  induction n with
  | zero => intro i _ h2; omega
  | succ n ih =>
    intro i h1 h2
    rw [gX7_blushes_4, hC.1]
    by_cases hi : tP W ≤ i
    · rw [if_pos (nI_le hi (by omega)), show tP W = i by omega]
    · have hsi := hWT.2.2.2.1 i (by omega)
      have hj9 := hW.2.2.2.2.2 j hj _ hsi
      have e := ih (i + 1) (by omega) (by omega)
      rw [blu] at e
      rw [if_neg (nI_ge (by omega) (by omega)), ldA_n _ (by omega) (by decide), Option.bind_some, hC.2.2.1 i (by omega), c_swept h hj hsi, Option.bind_some]
      by_cases hq : 0 < bJ B j (tS W i)
      · rw [if_pos hq] at e
        rw [if_neg (nI_nle hq (by omega)), Option.bind_some, gX7_blushes_44, Option.bind_some, nI_1]
        exact e
      · rw [if_neg hq] at e
        rw [if_pos (show nI (bJ B j (tS W i)) ≤ 0 by rw [show bJ B j (tS W i) = 0 by omega]; decide), gX7_blushes_44, Option.bind_some, nI_1]
        exact e
theorem m_reads93 {M : Mem} {W : Twn} {B : Blk} {j : Nat} {x2 x3 : Int32} (hj : j < 4) (hWT : WfT W) (hC : ToM M W) (hW : WfB (tP W) (tL W) B) (h : MoM (M 201) 0 (tP W) B) : ∀ n i, i ≤ tP W → tP W - i < n → gX8_reads_93 n (nI j) x2 x3 (blu (fun p => 0 < bJ B j (tS W p)) i) (nI i) M = some (if x2 = 0 then x3 else blu (fun p => 0 < bJ B j (tS W p)) (tP W)) := by
  have hpe := hWT.1
  intro n
  induction n with
  | zero => intro i _ h2; omega
  | succ n ih =>
    intro i h1 h2
    rw [gX8_reads_93, hC.1]
    by_cases hi : tP W ≤ i
    · rw [if_pos (nI_le hi (by omega)), show tP W = i by omega]
      by_cases h0 : x2 = 0
      · rw [if_pos h0, if_pos h0, gX8_reads_154]
      · rw [if_neg h0, if_neg h0, gX8_reads_154]
    · have hsi := hWT.2.2.2.1 i (by omega)
      have hj9 := hW.2.2.2.2.2 j hj _ hsi
      have e := ih (i + 1) (by omega) (by omega)
      rw [blu] at e
      rw [if_neg (nI_ge (by omega) (by omega)), ldA_n _ (by omega) (by decide), Option.bind_some, hC.2.2.1 i (by omega), m_swept h hj hsi, Option.bind_some]
      by_cases hq : 0 < bJ B j (tS W i)
      · rw [if_pos hq] at e
        rw [if_neg (nI_nle hq (by omega)), gX8_reads_135, Option.bind_some, Option.bind_some, nI_1]
        exact e
      · rw [if_neg hq] at e
        rw [if_pos (show nI (bJ B j (tS W i)) ≤ 0 by rw [show bJ B j (tS W i) = 0 by omega]; decide), gX8_reads_135, Option.bind_some, Option.bind_some, nI_1, Int32.or_zero]
        exact e
theorem m_reads27 {M : Mem} {W : Twn} {B : Blk} {j : Nat} {x2 : Int32} (hj : j < 4) (hWT : WfT W) (hC : ToM M W) (hW : WfB (tP W) (tL W) B) (h : MoM (M 201) 0 (tP W) B) : ∀ n i, i ≤ 10 → 10 - i < n → gX8_reads_27 n (nI j) x2 (bst (bJ B j) i).1 (nI (bst (bJ B j) i).2) (nI i) M = some (if x2 = 0 then (bst (bJ B j) 10).1 else blu (fun p => 0 < bJ B j (tS W p)) (tP W)) := by
  intro n
  induction n with
  | zero => intro i _ h2; omega
  | succ n ih =>
    intro i h1 h2
    have hb := bst_le (f := bJ B j) (c := 99) i (fun k hk => hW.2.2.2.2.2 j hj k (by omega))
    rw [gX8_reads_27]
    by_cases hi : 10 ≤ i
    · have hi4 : i = 10 := by omega
      subst hi4
      rw [if_pos (show (10 : Int32) ≤ nI 10 from nI_le (a := 10) (by omega) (by omega))]
      exact m_reads93 hj hWT hC hW h FU 0 (by omega) (by have := hWT.1; unfold FU; omega)
    · have hji := hW.2.2.2.2.2 j hj i (by omega)
      have e := ih (i + 1) (by omega) (by omega)
      rw [bst] at e
      rw [if_neg (show ¬ (10 : Int32) ≤ nI i from nI_ge (b := 10) (by omega) (by omega)), m_swept h hj (by omega), Option.bind_some]
      by_cases hq : bJ B j i ≤ (bst (bJ B j) i).2
      · rw [if_pos hq] at e
        rw [if_pos (nI_le hq (by omega)), gX8_reads_64, if_pos (nI_le hq (by omega)), gX8_reads_79, Option.bind_some, nI_1]
        exact e
      · rw [if_neg hq] at e
        rw [if_neg (nI_ge (by omega) (by omega)), gX8_reads_64, if_neg (nI_ge (by omega) (by omega)), gX8_reads_79, Option.bind_some, nI_1]
        exact e
theorem sim_reads : Sim_reads II := by
  intro MC TC MM TM hI a1 a2
  obtain ⟨rfl, A, hW, hC, hM⟩ := hI
  obtain ⟨σ, hs, ht⟩ := id hC.2.2.1
  have hWB := hW.2.2.1.2.1
  rcases isJr a1 with ⟨j, hj, rfl, k1, k2⟩ | ⟨k1, k2⟩
  · have r1 : gX8_reads_27 FU (nI j) a2 (-9) 0 0 MM = some _ := m_reads27 (x2 := a2) hj hW.2.1 hM.2.1 hWB hM.2.2.1.2.1 FU 0 (by omega) (by unfold FU; omega)
    by_cases h0 : a2 = 0
    · subst h0
      obtain ⟨M', e1, e2⟩ := c_mostIn_l hj hWB FU 0 (by omega) (by unfold FU; omega) MC ht.2.1 (fun k hk => absurd hk (by omega))
      replace e1 : gX7_mostIn (nI j) MC = some _ := e1
      refine ⟨((bst (bJ (mB (aT A)) j) 10).1, M'), (bst (bJ (mB (aT A)) j) 10).1, ?_, ?_, ?_, rfl, A, hW, hC.cg hW (e2 _ (by decide)) (e2 _ (by decide)) (fun a q1 q2 => e2 _ (by omega)) (congrFun (e2 185 (by decide)) 3) (congrFun (e2 185 (by decide)) 4) (fun a q1 q2 => e2 _ (by omega)), hM⟩
      · simp only [gX7_reads, k1, Option.bind_some, e1]; rfl
      · simp only [gX8_reads, k2, Option.bind_some, show gX8_in (0 : Int32) 0 1 = some 1 by decide, r1]; rfl
      · rfl
    · by_cases h1 : a2 = 1
      · subst h1
        have s1 : gX7_blushes (nI j) MC = some _ := c_blush_l hj hW.2.1 hC.2.1 hWB ht.2.1 FU 0 (by omega) (by have := hW.2.1.1; unfold FU; omega)
        refine ⟨(blu (fun p => 0 < bJ (mB (aT A)) j (tS (aW A) p)) (tP (aW A)), MC), blu (fun p => 0 < bJ (mB (aT A)) j (tS (aW A) p)) (tP (aW A)), ?_, ?_, ?_, rfl, A, hW, hC, hM⟩
        · simp only [gX7_reads, k1, Option.bind_some, s1]; rfl
        · simp only [gX8_reads, k2, Option.bind_some, show gX8_in (1 : Int32) 0 1 = some 1 by decide, r1]; rfl
        · rfl
      · have k3 : gX8_in a2 0 1 = some 0 := by
          rcases wi a2 1 (by decide) with ⟨q, hq, e, -, -⟩ | ⟨-, k⟩
          · rcases (show q = 0 ∨ q = 1 by omega) with rfl | rfl
            · exact absurd e h0
            · exact absurd e h1
          · exact k
        refine ⟨(-1, MC), -1, ?_, ?_, rfl, rfl, A, hW, hC, hM⟩
        · simp only [gX7_reads, k1, Option.bind_some]
          rw [if_neg (by decide), if_neg h0, if_neg h1]
        · simp only [gX8_reads, k2, k3, Option.bind_some]; rfl
  · refine ⟨(-1, MC), -1, ?_, ?_, rfl, rfl, A, hW, hC, hM⟩
    · simp only [gX7_reads, k1, Option.bind_some]; rfl
    · simp only [gX8_reads, k2, Option.bind_some]; rfl
