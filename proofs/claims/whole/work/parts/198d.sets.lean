def hsum (B : Blk) (S t : Nat) : Nat → Nat
  | 0 => 0
  | p + 1 => hsum B S t p + (if bt S p then cn (bH B p) t (bS B p) else 0)
theorem hsum_le {B : Blk} {pe lg : Nat} (hlg : lg ≤ 12) (hW : WfB pe lg B) (S t : Nat) : ∀ p, p ≤ pe → hsum B S t p ≤ 12 * p
  | 0, _ => Nat.le_refl 0
  | p + 1, h => by
    have h1 := hsum_le hlg hW S t p (by omega)
    have h2 := cn_le (bH B p) t (bS B p)
    have h3 := hW.2.2.1 p (by omega)
    unfold hsum
    split <;> omega
abbrev hpf (B : Blk) (x : Nat × (Nat → Nat) × (Nat → Nat)) (pe S i : Nat) : Prop := ∀ k, k < i → hsum B S (x.2.1 k) pe = x.2.2 k
theorem hpf_s {B : Blk} {x : Nat × (Nat → Nat) × (Nat → Nat)} {pe S i : Nat} : hpf B x pe S (i + 1) ↔ hpf B x pe S i ∧ hsum B S (x.2.1 i) pe = x.2.2 i := by
  constructor
  · exact fun h => ⟨fun k hk => h k (by omega), h i (by omega)⟩
  · rintro ⟨h1, h2⟩ k hk
    by_cases q : k = i
    · rw [q]; exact h2
    · exact h1 k (by omega)
abbrev WfH (x : Nat × (Nat → Nat) × (Nat → Nat)) : Prop := x.1 ≤ 4 ∧ (∀ i, i < x.1 → x.2.1 i < 10) ∧ ∀ i, i < x.1 → x.2.2 i ≤ 60
-- the class
theorem c_sh15 {pe lg : Nat} {B : Blk} {x : Nat × (Nat → Nat) × (Nat → Nat)} (hpe : pe ≤ 5) (hlg : lg ≤ 12) (hW : WfB pe lg B) (hx : WfH x) {j : Nat} (hj : j < x.1) (k2 : Int32 → Mem → Option Mem) : ∀ n i, i ≤ pe → pe - i < n → ∀ (M : Mem), M 191 3 = nI pe → MoC M 9 pe B → HeC M x → (∀ p, p < i → M 196 (5 * j + p) = nI (cn (bH B p) (x.2.1 j) (bS B p))) → ∃ M', gX7_shareOutHeard_15 k2 n (nI j) (nI i) M = k2 (nI (j + 1)) M' ∧ (∀ p, p < pe → M' 196 (5 * j + p) = nI (cn (bH B p) (x.2.1 j) (bS B p))) ∧ (∀ a, a < 5 * j → M' 196 a = M 196 a) ∧ ∀ a, a ≠ 196 → M' a = M a := by
  have hx4 := hx.1
  intro n
  induction n with
  | zero => intro i _ h2; omega
  | succ n ih =>
    intro i h1 h2 M h0 h hH hc
    rw [gX7_shareOutHeard_15, h0]
    by_cases hi : pe ≤ i
    · exact ⟨M, by rw [if_pos (nI_le hi (by omega)), nI_1, Option.bind_some], fun p hp => hc p (by omega), fun a _ => rfl, fun a _ => rfl⟩
    · obtain ⟨M', e1, e2, e3, e4⟩ := ih (i + 1) (by omega) (by omega) (us M 196 (5 * j + i) (nI (cn (bH B i) (x.2.1 j) (bS B i)))) (by rw [us_ne _ _ _ (by decide)]; exact h0) (h.cg (fun a q1 q2 => us_ne _ _ _ (by omega))) (hH.cg (by rw [us_ne _ _ _ (by decide)]) (us_ne _ _ _ (by decide)) (us_ne _ _ _ (by decide))) (fun p hp => by
        rw [us_app]
        by_cases hpi : p = i
        · rw [if_pos ⟨rfl, by omega⟩, hpi]
        · rw [if_neg (by omega)]; exact hc p (by omega))
      refine ⟨M', ?_, e2, fun a ha => by rw [e3 a ha, us_app, if_neg (by omega)], fun a ha => by rw [e4 a ha, us_ne _ _ _ ha]⟩
      rw [if_neg (nI_ge (by omega) (by omega)), ldA_n _ (by omega) (by decide), hH.2.1 j hj, Option.bind_some, c_layersOf (o := 9) hpe hlg hW h (by omega) (hx.2.1 j hj), Option.bind_some, i_5, pk_mul, nI_add, show j * 5 + i = 5 * j + i by omega, stA_n _ _ _ (by omega) (by decide), Option.bind_some, nI_1, Option.bind_some]
      exact e1
theorem c_sh2 {pe lg : Nat} {B : Blk} {x : Nat × (Nat → Nat) × (Nat → Nat)} (hpe : pe ≤ 5) (hlg : lg ≤ 12) (hW : WfB pe lg B) (hx : WfH x) : ∀ n j, j ≤ x.1 → x.1 - j < n → ∀ (M : Mem), M 191 3 = nI pe → MoC M 9 pe B → HeC M x → (∀ k, k < j → ∀ p, p < pe → M 196 (5 * k + p) = nI (cn (bH B p) (x.2.1 k) (bS B p))) → ∃ M', gX7_shareOutHeard_2 n (nI j) M = some M' ∧ (∀ k, k < x.1 → ∀ p, p < pe → M' 196 (5 * k + p) = nI (cn (bH B p) (x.2.1 k) (bS B p))) ∧ ∀ a, a ≠ 196 → M' a = M a := by
  have hx4 := hx.1
  intro n
  induction n with
  | zero => intro i _ h2; omega
  | succ n ih =>
    intro j h1 h2 M h0 h hH hc
    rw [gX7_shareOutHeard_2, hH.1]
    by_cases hi : x.1 ≤ j
    · exact ⟨M, by rw [if_pos (nI_le hi (by omega))], fun k hk => hc k (by omega), fun a _ => rfl⟩
    · obtain ⟨M1, e1, e2, e3, e4⟩ := c_sh15 hpe hlg hW hx (show j < x.1 by omega) (gX7_shareOutHeard_2 n) FU 0 (by omega) (by unfold FU; omega) M h0 h hH (fun p hp => absurd hp (Nat.not_lt_zero p))
      obtain ⟨M2, f1, f2, f3⟩ := ih (j + 1) (by omega) (by omega) M1 (by rw [e4 _ (by decide)]; exact h0) (h.cg (fun a q1 q2 => e4 a (by omega))) (hH.cg (by rw [e4 _ (by decide)]) (e4 _ (by decide)) (e4 _ (by decide))) (fun k hk p hp => by
        by_cases hkj : k = j
        · rw [hkj]; exact e2 p hp
        · rw [e3 _ (by omega)]; exact hc k (by omega) p hp)
      refine ⟨M2, ?_, f2, fun a ha => by rw [f3 a ha, e4 a ha]⟩
      rw [if_neg (nI_ge (by omega) (by omega)), i_0]
      exact e1.trans f1
theorem c_ah18 {M : Mem} {pe lg S : Nat} {B : Blk} {x : Nat × (Nat → Nat) × (Nat → Nat)} (hpe : pe ≤ 5) (hlg : lg ≤ 12) (hW : WfB pe lg B) (hx : WfH x) (hS : S < 2147483648) (h0 : M 191 3 = nI pe) (hH : HeC M x) {j : Nat} (hj : j < x.1) (hc : ∀ p, p < pe → M 196 (5 * j + p) = nI (cn (bH B p) (x.2.1 j) (bS B p))) (k2 : Int32 → Int32 → Mem → Option Int32) : ∀ n i, i ≤ pe → pe - i < n → gX7_allHeardIsSo_18 k2 n (nI S) (nI j) (nI (hsum B S (x.2.1 j) i)) (nI i) M = if hsum B S (x.2.1 j) pe = x.2.2 j then k2 (nI S) (nI (j + 1)) M else some 0 := by
  have hx4 := hx.1
  intro n
  induction n with
  | zero => intro i _ h2; omega
  | succ n ih =>
    intro i h1 h2
    rw [gX7_allHeardIsSo_18, h0]
    by_cases hi : pe ≤ i
    · have hi2 : i = pe := by omega
      subst hi2
      have hl := hsum_le hlg hW S (x.2.1 j) i (Nat.le_refl _)
      have hl2 := hx.2.2 j hj
      rw [if_pos (nI_le hi (by omega)), ldA_n _ (by omega) (by decide), hH.2.2 j hj, Option.bind_some]
      by_cases hq : hsum B S (x.2.1 j) i = x.2.2 j
      · rw [if_pos hq, if_pos (congrArg nI hq), nI_1, Option.bind_some]
      · rw [if_neg hq, if_neg (fun q => hq (nI_inj (by omega) (by omega) q))]
    · have e := ih (i + 1) (by omega) (by omega)
      rw [hsum] at e
      rw [if_neg (nI_ge (by omega) (by omega)), c_has hS (by omega), Option.bind_some]
      by_cases hb : bt S i
      · rw [if_pos hb] at e ⊢
        rw [if_neg (by decide), i_5, pk_mul, nI_add, show j * 5 + i = 5 * j + i by omega, ldA_n _ (by omega) (by decide), hc i (by omega), Option.bind_some, nI_add, Option.bind_some, gX7_allHeardIsSo_53, nI_1, Option.bind_some]
        exact e
      · rw [if_neg hb] at e ⊢
        rw [if_pos rfl, gX7_allHeardIsSo_53, nI_1, Option.bind_some]
        exact e
theorem c_ah2 {M : Mem} {pe lg S : Nat} {B : Blk} {x : Nat × (Nat → Nat) × (Nat → Nat)} (hpe : pe ≤ 5) (hlg : lg ≤ 12) (hW : WfB pe lg B) (hx : WfH x) (hS : S < 2147483648) (h0 : M 191 3 = nI pe) (hH : HeC M x) (hc : ∀ k, k < x.1 → ∀ p, p < pe → M 196 (5 * k + p) = nI (cn (bH B p) (x.2.1 k) (bS B p))) : ∀ n j, j ≤ x.1 → x.1 - j < n → hpf B x pe S j → gX7_allHeardIsSo_2 n (nI S) (nI j) M = some (if hpf B x pe S x.1 then 1 else 0) := by
  have hx4 := hx.1
  intro n
  induction n with
  | zero => intro i _ h2; omega
  | succ n ih =>
    intro j h1 h2 hp
    rw [gX7_allHeardIsSo_2, hH.1]
    by_cases hi : x.1 ≤ j
    · have hi2 : j = x.1 := by omega
      subst hi2
      rw [if_pos (nI_le hi (by omega)), if_pos hp]
    · have e := c_ah18 hpe hlg hW hx hS h0 hH (show j < x.1 by omega) (hc j (by omega)) (gX7_allHeardIsSo_2 n) FU 0 (by omega) (by unfold FU; omega)
      rw [if_neg (nI_ge (by omega) (by omega)), i_0]
      refine e.trans ?_
      by_cases hq : hsum B S (x.2.1 j) pe = x.2.2 j
      · rw [if_pos hq]
        exact ih (j + 1) (by omega) (by omega) (hpf_s.mpr ⟨hp, hq⟩)
      · rw [if_neg hq, if_neg (fun z => hq (z j (by omega)))]; rfl
-- the reference
theorem m_ih18 {M : Mem} {pe lg S : Nat} {B : Blk} {x : Nat × (Nat → Nat) × (Nat → Nat)} (hpe : pe ≤ 5) (hlg : lg ≤ 12) (hW : WfB pe lg B) (hx : WfH x) (hS : S < 2147483648) (h0 : M 197 0 = nI pe) (h : MoM (M 201) 0 pe B) (hH : HeM M x) {j : Nat} (hj : j < x.1) (k4 : Int32 → Int32 → Int32 → Mem → Option Int32) : ∀ n i, i ≤ pe → pe - i < n → gX8_isHeard_18 k4 n (nI S) (if hpf B x pe S j then 1 else 0) (nI j) (nI (hsum B S (x.2.1 j) i)) (nI i) M = k4 (nI S) (if hpf B x pe S (j + 1) then 1 else 0) (nI (j + 1)) M := by
  have hx4 := hx.1
  intro n
  induction n with
  | zero => intro i _ h2; omega
  | succ n ih =>
    intro i h1 h2
    rw [gX8_isHeard_18, h0]
    by_cases hi : pe ≤ i
    · have hi2 : i = pe := by omega
      subst hi2
      have hl := hsum_le hlg hW S (x.2.1 j) i (Nat.le_refl _)
      have hl2 := hx.2.2 j hj
      rw [if_pos (nI_le hi (by omega))]
      by_cases hp : hpf B x i S j
      · rw [if_pos hp, if_neg (by decide), i_2, i_1, pk_mul, nI_add, ldA_n _ (by omega) (by decide), hH.2.2 j hj, Option.bind_some]
        by_cases hq : hsum B S (x.2.1 j) i = x.2.2 j
        · rw [if_pos (congrArg nI hq), gX8_isHeard_89, ← i_1, nI_1, Option.bind_some, if_pos (hpf_s.mpr ⟨hp, hq⟩)]
        · rw [if_neg (fun q => hq (nI_inj (by omega) (by omega) q)), gX8_isHeard_88, gX8_isHeard_89, ← i_1, nI_1, Option.bind_some, if_neg (fun z => hq (hpf_s.mp z).2)]
      · rw [if_neg hp, if_pos rfl, gX8_isHeard_88, gX8_isHeard_89, nI_1, Option.bind_some, if_neg (fun z => hp (hpf_s.mp z).1)]
    · have e := ih (i + 1) (by omega) (by omega)
      rw [hsum] at e
      rw [if_neg (nI_ge (by omega) (by omega)), m_has hS (by omega), Option.bind_some]
      by_cases hb : bt S i
      · rw [if_pos hb] at e ⊢
        rw [if_neg (by decide), i_2, pk_mul, ldA_n _ (by omega) (by decide), hH.2.1 j hj, Option.bind_some, m_layersOf hpe hlg hW h (by omega) (hx.2.1 j hj), Option.bind_some, gX8_isHeard_56, nI_add, Option.bind_some, nI_1, Option.bind_some]
        exact e
      · rw [if_neg hb] at e ⊢
        rw [if_pos rfl, gX8_isHeard_56, i_0, nI_add, Option.bind_some, nI_1, Option.bind_some]
        exact e
theorem m_ih4 {M : Mem} {pe lg S : Nat} {B : Blk} {x : Nat × (Nat → Nat) × (Nat → Nat)} (hpe : pe ≤ 5) (hlg : lg ≤ 12) (hW : WfB pe lg B) (hx : WfH x) (hS : S < 2147483648) (h0 : M 197 0 = nI pe) (h : MoM (M 201) 0 pe B) (hH : HeM M x) : ∀ n j, j ≤ x.1 → x.1 - j < n → gX8_isHeard_4 n (nI S) (if hpf B x pe S j then 1 else 0) (nI j) M = some (if hpf B x pe S x.1 then 1 else 0) := by
  have hx4 := hx.1
  intro n
  induction n with
  | zero => intro i _ h2; omega
  | succ n ih =>
    intro j h1 h2
    rw [gX8_isHeard_4, hH.1]
    by_cases hi : x.1 ≤ j
    · have hi2 : j = x.1 := by omega
      subst hi2
      rw [if_pos (nI_le hi (by omega))]
      by_cases hp : hpf B x pe S x.1
      · rw [if_pos hp, zr_1, Option.bind_some]
      · rw [if_neg hp, zr_0, Option.bind_some]
    · have e := m_ih18 hpe hlg hW hx hS h0 h hH (show j < x.1 by omega) (gX8_isHeard_4 n) FU 0 (by omega) (by unfold FU; omega)
      rw [if_neg (nI_ge (by omega) (by omega)), i_0]
      exact e.trans (ih (j + 1) (by omega) (by omega))
theorem both_sets {MC MM : Mem} {N : Nat} {g : Nat → Prop} [DecidablePred g] {x1 : Int32} (hN : N < 1000) (hC : ∀ S, S ≤ N → gX7_allHeardIsSo (nI S) MC = some (if g S then 1 else 0)) (hM : ∀ S, S ≤ N → gX8_isHeard (nI S) MM = some (if g S then 1 else 0)) : ∀ n i, i ≤ N + 1 → N + 1 - i < n → ∀ (a : Nat) (f e s : Int32), a ≤ i → (a = 0 → f = -9) → ∃ r, gX7_sets_42 n x1 (nI N) (nI a) f e s (nI i) MC = some (r, MC) ∧ gX8_sets_35 n x1 (nI N) e s f (nI a) (nI i) MM = some r := by
  intro n
  induction n with
  | zero => intro i _ h2; omega
  | succ n ih =>
    intro i h1 h2 a f e s ha hf
    by_cases hi : N < i
    · rw [gX7_sets_42, gX8_sets_35, if_pos (nI_lt hi (by omega)), if_pos (nI_lt hi (by omega))]
      by_cases z0 : x1 = 0
      · rw [if_pos z0, if_pos z0, gX8_sets_94, if_pos z0]
        exact ⟨_, rfl, rfl⟩
      · rw [if_neg z0, if_neg z0]
        by_cases ha0 : a = 0
        · rw [ha0, if_pos (show nI 0 = 0 from rfl), if_pos (show nI 0 = 0 from rfl), gX8_sets_94, if_neg z0, hf ha0]
          exact ⟨_, rfl, rfl⟩
        · rw [if_neg (nI_ne0 (n := a) (by omega) (by omega)), if_neg (nI_ne0 (n := a) (by omega) (by omega))]
          by_cases z1 : x1 = 1
          · rw [if_pos z1, if_pos z1]; exact ⟨_, rfl, rfl⟩
          · rw [if_neg z1, if_neg z1]
            by_cases z2 : x1 = 2
            · rw [if_pos z2, if_pos z2]; exact ⟨_, rfl, rfl⟩
            · rw [if_neg z2, if_neg z2]; exact ⟨_, rfl, rfl⟩
    · by_cases hg : g i
      · have E1 : gX7_sets_42 (n + 1) x1 (nI N) (nI a) f e s (nI i) MC = gX7_sets_42 n x1 (nI N) (nI (a + 1)) (if a = 0 then nI i else f) (e &&& nI i) (s ||| nI i) (nI (i + 1)) MC := by
          rw [gX7_sets_42, if_neg (nI_nlt (by omega) (by omega)), hC i (by omega), Option.bind_some, if_pos hg, if_neg (by decide)]
          by_cases ha0 : a = 0
          · rw [if_pos (show nI a = 0 by rw [ha0]; rfl), if_pos ha0, gX7_sets_68, Option.bind_some, Option.bind_some, nI_1, Option.bind_some, gX7_sets_87, nI_1, Option.bind_some]
          · rw [if_neg (nI_ne0 (n := a) (by omega) (by omega)), if_neg ha0, gX7_sets_68, Option.bind_some, Option.bind_some, nI_1, Option.bind_some, gX7_sets_87, nI_1, Option.bind_some]
        have E2 : gX8_sets_35 (n + 1) x1 (nI N) e s f (nI a) (nI i) MM = gX8_sets_35 n x1 (nI N) (e &&& nI i) (s ||| nI i) (if a = 0 then nI i else f) (nI (a + 1)) (nI (i + 1)) MM := by
          rw [gX8_sets_35, if_neg (nI_nlt (by omega) (by omega)), hM i (by omega), Option.bind_some, if_pos hg, if_neg (by decide)]
          by_cases ha0 : a = 0
          · rw [if_pos (show nI a = 0 by rw [ha0]; rfl), if_pos ha0, gX8_sets_62, Option.bind_some, Option.bind_some, nI_1, Option.bind_some, gX8_sets_79, nI_1, Option.bind_some]
          · rw [if_neg (nI_ne0 (n := a) (by omega) (by omega)), if_neg ha0, gX8_sets_62, Option.bind_some, Option.bind_some, nI_1, Option.bind_some, gX8_sets_79, nI_1, Option.bind_some]
        rw [E1, E2]
        exact ih (i + 1) (by omega) (by omega) (a + 1) _ _ _ (by omega) (fun q => absurd q (by omega))
      · have E1 : gX7_sets_42 (n + 1) x1 (nI N) (nI a) f e s (nI i) MC = gX7_sets_42 n x1 (nI N) (nI a) f e s (nI (i + 1)) MC := by
          rw [gX7_sets_42, if_neg (nI_nlt (by omega) (by omega)), hC i (by omega), Option.bind_some, if_neg hg, if_pos rfl, gX7_sets_87, nI_1, Option.bind_some]
        have E2 : gX8_sets_35 (n + 1) x1 (nI N) e s f (nI a) (nI i) MM = gX8_sets_35 n x1 (nI N) e s f (nI a) (nI (i + 1)) MM := by
          rw [gX8_sets_35, if_neg (nI_nlt (by omega) (by omega)), hM i (by omega), Option.bind_some, if_neg hg, if_pos rfl, gX8_sets_79, nI_1, Option.bind_some]
        rw [E1, E2]
        exact ih (i + 1) (by omega) (by omega) a _ _ _ (by omega) hf
theorem sim_sets : Sim_sets II := by
  intro MC TC MM TM hI a1
  obtain ⟨rfl, A, hW, hC, hM⟩ := hI
  obtain ⟨σ, hs, ht⟩ := id hC.2.2.1
  have hWB := hW.2.2.1.2.1
  have hpe := hW.2.1.1
  have hlg := hW.2.1.2.2.1
  have hx : WfH (aH A) := hW.2.2.2.2.2
  have hp := pw32 hpe
  have hp0 : 0 < 2 ^ tP (aW A) := Nat.two_pow_pos _
  rcases wi a1 3 (by decide) with ⟨s, hs2, rfl, k1, k2⟩ | ⟨k1, k2⟩
  · replace k1 : gX7_within (nI s) 0 3 = some 1 := k1
    replace k2 : gX8_in (nI s) 0 3 = some 1 := k2
    have hx4 := hx.1
    obtain ⟨N1, e1, e2, e3⟩ := c_sh2 hpe hlg hWB hx FU 0 (by omega) (by unfold FU; omega) MC hC.2.1.1 ht.2.1 hC.2.2.2.2.2.1 (fun k hk => absurd hk (Nat.not_lt_zero k))
    have h0 : N1 191 3 = nI (tP (aW A)) := by rw [e3 _ (by decide)]; exact hC.2.1.1
    have hH : HeC N1 (aH A) := hC.2.2.2.2.2.1.cg (by rw [e3 _ (by decide)]) (e3 _ (by decide)) (e3 _ (by decide))
    have q1 : ∀ S, S ≤ 2 ^ tP (aW A) - 1 → gX7_allHeardIsSo (nI S) N1 = some (if hpf (mB (aT A)) (aH A) (tP (aW A)) S (aH A).1 then 1 else 0) := by
      intro S hS
      rw [gX7_allHeardIsSo, i_0]
      exact c_ah2 hpe hlg hWB hx (by omega) h0 hH e2 FU 0 (by omega) (by unfold FU; omega) (fun k hk => absurd hk (Nat.not_lt_zero k))
    have q2 : ∀ S, S ≤ 2 ^ tP (aW A) - 1 → gX8_isHeard (nI S) MM = some (if hpf (mB (aT A)) (aH A) (tP (aW A)) S (aH A).1 then 1 else 0) := by
      intro S hS
      have := m_ih4 (S := S) hpe hlg hWB hx (by omega) hM.2.1.1 hM.2.2.1.2.1 hM.2.2.2.2.2 FU 0 (by omega) (by unfold FU; omega)
      rw [if_pos (fun k hk => absurd hk (Nat.not_lt_zero k))] at this
      rw [gX8_isHeard, i_0]
      exact this
    obtain ⟨r, r1, r2⟩ := both_sets (x1 := nI s) (N := 2 ^ tP (aW A) - 1) (g := fun S => hpf (mB (aT A)) (aH A) (tP (aW A)) S (aH A).1) (by omega) q1 q2 FU 0 (by omega) (by unfold FU; omega) 0 (-9) (nI (2 ^ tP (aW A) - 1)) 0 (by omega) (fun _ => rfl)
    have hCN : RC A N1 := hC.cg hW (e3 _ (by decide)) (e3 _ (by decide)) (fun a q1 q2 => e3 a (by omega)) (by rw [e3 _ (by decide)]) (by rw [e3 _ (by decide)]) (fun a q1 q2 => e3 a (by omega))
    refine ⟨(r, N1), r, ?_, ?_, rfl, rfl, A, hW, hCN, hM⟩
    · rw [gX7_sets, k1, obs, if_neg (by decide), gX7_shareOutHeard, show gX7_shareOutHeard_2 FU 0 MC = some N1 by rw [i_0]; exact e1, obs, h0, shl1 (by omega), i_1, pk_sub (by omega), obs]
      exact r1
    · rw [gX8_sets, k2, obs, if_neg (by decide), hM.2.1.1, shl1 (by omega), i_1, pk_sub (by omega), obs]
      exact r2
  · replace k1 : gX7_within a1 0 3 = some 0 := k1
    replace k2 : gX8_in a1 0 3 = some 0 := k2
    refine ⟨(-1, MC), -1, ?_, ?_, rfl, rfl, A, hW, hC, hM⟩
    · simp only [gX7_sets, k1, obs]; rw [if_pos trivial]
    · simp only [gX8_sets, k2, obs]; rw [if_pos trivial]
