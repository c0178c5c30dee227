def prd (x S : Nat) : Nat → Nat
  | 0 => 1
  | i + 1 => prd x S i * (if bt S i then x else 10 - x)
theorem prd_pc (x S : Nat) : ∀ n, prd x S n = x ^ pc S n * (10 - x) ^ (n - pc S n)
  | 0 => rfl
  | n + 1 => by
    have h := prd_pc x S n
    have hl := pc_le S n
    rw [prd, pc, h]
    by_cases hb : bt S n
    · rw [if_pos hb, show S / 2 ^ n % 2 = 1 from hb, show n + 1 - (pc S n + 1) = n - pc S n by omega, Nat.pow_succ, Nat.mul_assoc, Nat.mul_assoc, Nat.mul_comm x]
    · have h0 : S / 2 ^ n % 2 = 0 := by have : ¬ S / 2 ^ n % 2 = 1 := hb; omega
      rw [if_neg hb, h0, Nat.add_zero, show n + 1 - pc S n = n - pc S n + 1 by omega, Nat.pow_succ, Nat.mul_assoc]
def cntS (k : Nat) : Nat → Nat
  | 0 => 0
  | S + 1 => cntS k S + (if pc S 10 = k then 1 else 0)
def abv (x k n : Nat) : Nat → Nat
  | 0 => 0
  | S + 1 => abv x k n S + (if pc S 10 = k then prd x S n else 0)
theorem pc10 : ∀ n, n < 8 → ∀ S, S < 128 → S < 2 ^ n → pc S 10 = pc S n := by decide +kernel
theorem abv_cnt {x k n : Nat} (hn : n < 8) : ∀ N, N ≤ 2 ^ n → abv x k n N = cntS k N * (x ^ k * (10 - x) ^ (n - k))
  | 0, _ => by rw [abv, cntS, Nat.zero_mul]
  | S + 1, h => by
    have h2 : 2 ^ n ≤ 128 := Nat.pow_le_pow_right (by decide) (show n ≤ 7 by omega)
    rw [abv, cntS, abv_cnt hn S (by omega), Nat.add_mul]
    by_cases hq : pc S 10 = k
    · rw [if_pos hq, if_pos hq, Nat.one_mul, prd_pc, ← pc10 n hn S (by omega) (by omega), hq]
    · rw [if_neg hq, if_neg hq, Nat.zero_mul]
theorem cnt_le : ∀ n, n < 8 → ∀ k, k < 8 → cntS k (2 ^ n) ≤ 35 ∧ (n < k → cntS k (2 ^ n) = 0) := by decide +kernel
theorem c_choose : ∀ n, n < 8 → ∀ k, k < 8 → k ≤ n → gX7_choose (nI n) (nI k) = some (nI (cntS k (2 ^ n))) := by decide +kernel
theorem c_pow_l {b e : Nat} (he : e < 100) : ∀ n i, i ≤ e → e - i < n → gX7_power_4 n (nI b) (nI e) (nI (b ^ i)) (nI i) = some (nI (b ^ e)) := by
  intro n
  induction n with
  | zero => intro i _ h2; omega
  | succ n ih =>
    intro i h1 h2
    rw [gX7_power_4]
    by_cases hi : e ≤ i
    · rw [if_pos (nI_le hi (by omega)), show i = e by omega]
    · rw [if_neg (nI_ge (by omega) (by omega)), pk_mul, Option.bind_some, nI_1, Option.bind_some, ← Nat.pow_succ]
      exact ih (i + 1) (by omega) (by omega)
theorem c_pow {b e : Nat} (he : e < 100) : gX7_power (nI b) (nI e) = some (nI (b ^ e)) := c_pow_l he FU 0 (by omega) (by unfold FU; omega)
theorem half {a b r : Nat} (hr : r = a % b) (h0 : 0 < r) (hb : 0 < b) : 2 * (b % r) < b := by
  have h1 : r < b := by rw [hr]; exact Nat.mod_lt _ hb
  have h2 := Nat.mod_lt b h0
  have h3 : b % r ≤ b - r := by
    rw [Nat.mod_eq_sub_mod (by omega)]
    exact Nat.mod_le _ _
  omega
theorem c_gcd : ∀ m, m ≤ 31 → ∀ n i a b, b < 2 ^ m → a < 2147483648 → b < 2147483648 → i + 2 * m < 64 → 2 * m < n → gX7_commonDivisor_7 n (nI a) (nI b) (nI i) = some (nI (Nat.gcd a b))
  | 0, _, n, i, a, b, hb, ha, _, hi, hn => by
    have hb0 : b = 0 := by have : b < 1 := hb; omega
    subst hb0
    obtain ⟨n, rfl⟩ : ∃ k, n = k + 1 := ⟨n - 1, by omega⟩
    rw [gX7_commonDivisor_7, if_neg (show ¬ (64 : Int32) ≤ nI i from nI_ge (b := 64) (by omega) (by omega)), if_pos (show nI 0 = 0 from rfl), gX7_commonDivisor_34, Nat.gcd_zero_right]
  | m + 1, hm, n, i, a, b, hb, ha, hb2, hi, hn => by
    obtain ⟨n, rfl⟩ : ∃ k, n = k + 1 + 1 := ⟨n - 2, by omega⟩
    rw [gX7_commonDivisor_7, if_neg (show ¬ (64 : Int32) ≤ nI i from nI_ge (b := 64) (by omega) (by omega))]
    by_cases h0 : b = 0
    · subst h0
      rw [if_pos (show nI 0 = 0 from rfl), gX7_commonDivisor_34, Nat.gcd_zero_right]
    · have hr := Nat.mod_lt a (show 0 < b by omega)
      rw [if_neg (nI_ne0 (by omega) (by omega)), nz_n (by omega) (by omega), Option.bind_some, pk_rem (by omega) (by omega) (by omega), Option.bind_some, nI_1, Option.bind_some, gX7_commonDivisor_7, if_neg (show ¬ (64 : Int32) ≤ nI (i + 1) from nI_ge (b := 64) (by omega) (by omega))]
      by_cases h1 : a % b = 0
      · rw [h1, if_pos (show nI 0 = 0 from rfl), gX7_commonDivisor_34, Nat.gcd_comm, Nat.gcd_rec, h1, Nat.gcd_zero_left]
      · have hh := half (a := a) (b := b) rfl (show 0 < a % b by omega) (by omega)
        have hm2 := Nat.mod_lt b (show 0 < a % b by omega)
        rw [Nat.pow_succ] at hb
        rw [if_neg (nI_ne0 (by omega) (by omega)), nz_n (by omega) (by omega), Option.bind_some, pk_rem (by omega) (by omega) (by omega), Option.bind_some, nI_1, Option.bind_some, c_gcd m (by omega) n (i + 1 + 1) (a % b) (b % (a % b)) (by omega) (by omega) (by omega) (by omega) (by omega), Nat.gcd_comm (a % b), ← Nat.gcd_rec, ← Nat.gcd_rec, Nat.gcd_comm]
theorem m_gcd {x0 x1 x2 : Int32} : ∀ m, m ≤ 31 → ∀ n a b, b < 2 ^ m → a < 2147483648 → b < 2147483648 → 2 * m < n → gX8_lowest_5 n x0 x1 x2 (nI a) (nI b) = if x2 = 0 then gX8_lowest_35 (nI (Nat.gcd a b)) x0 else gX8_lowest_35 (nI (Nat.gcd a b)) x1
  | 0, _, n, a, b, hb, ha, _, hn => by
    have hb0 : b = 0 := by have : b < 1 := hb; omega
    subst hb0
    obtain ⟨n, rfl⟩ : ∃ k, n = k + 1 := ⟨n - 1, by omega⟩
    rw [gX8_lowest_5, if_pos (show nI 0 ≤ 0 by decide), Nat.gcd_zero_right]
  | m + 1, hm, n, a, b, hb, ha, hb2, hn => by
    obtain ⟨n, rfl⟩ : ∃ k, n = k + 1 + 1 := ⟨n - 2, by omega⟩
    rw [gX8_lowest_5]
    by_cases h0 : b = 0
    · subst h0
      rw [if_pos (show nI 0 ≤ 0 by decide), Nat.gcd_zero_right]
    · have hr := Nat.mod_lt a (show 0 < b by omega)
      rw [if_neg (nI_nle (by omega) (by omega)), nz_n (by omega) (by omega), Option.bind_some, pk_rem (by omega) (by omega) (by omega), Option.bind_some, gX8_lowest_5]
      by_cases h1 : a % b = 0
      · rw [h1, if_pos (show nI 0 ≤ 0 by decide), Nat.gcd_comm a, Nat.gcd_rec b a, h1, Nat.gcd_zero_left]
      · have hh := half (a := a) (b := b) rfl (show 0 < a % b by omega) (by omega)
        have hm2 := Nat.mod_lt b (show 0 < a % b by omega)
        rw [Nat.pow_succ] at hb
        rw [if_neg (nI_nle (by omega) (by omega)), nz_n (by omega) (by omega), Option.bind_some, pk_rem (by omega) (by omega) (by omega), Option.bind_some, m_gcd m (by omega) n (a % b) (b % (a % b)) (by omega) (by omega) (by omega) (by omega), Nat.gcd_comm (a % b), ← Nat.gcd_rec, ← Nat.gcd_rec, Nat.gcd_comm b]
theorem m_od87 {x k n S : Nat} {w x5 x6 : Int32} (hx : x ≤ 10) (hk : k < 8) (hn : n < 8) (hS : S < 2147483648) (k73 : Int32 → Int32 → Int32 → Int32 → Int32 → Int32 → Int32 → Option Int32) : ∀ fu i, i ≤ n → n - i < fu → gX8_odds_87 k73 fu (nI x) (nI k) (nI n) w x5 x6 (nI S) (nI (prd x S i)) (nI i) = k73 (nI x) (nI k) (nI n) w (x5 + nI (if pc S 10 = k then prd x S n else 0)) x6 (nI (S + 1)) := by
  intro fu
  induction fu with
  | zero => intro i _ h2; omega
  | succ fu ih =>
    intro i h1 h2
    rw [gX8_odds_87]
    by_cases hi : n ≤ i
    · have hi2 : i = n := by omega
      subst hi2
      have := pc_le S 10
      rw [if_pos (nI_le hi (by omega)), m_bits hS, Option.bind_some]
      by_cases hq : pc S 10 = k
      · rw [if_pos (congrArg nI hq), if_pos hq, gX8_odds_139, Option.bind_some, nI_1, Option.bind_some]
      · rw [if_neg (fun q => hq (nI_inj (by omega) (by omega) q)), if_neg hq, gX8_odds_139, Option.bind_some, nI_1, Option.bind_some]; rfl
    · have e := ih (i + 1) (by omega) (by omega)
      rw [prd] at e
      rw [if_neg (nI_ge (by omega) (by omega)), m_has hS (by omega), Option.bind_some]
      by_cases hb : bt S i
      · rw [if_pos hb] at e ⊢
        rw [if_neg (by decide), gX8_odds_113, pk_mul, Option.bind_some, nI_1, Option.bind_some]
        exact e
      · rw [if_neg hb] at e ⊢
        rw [if_pos rfl, i_10, pk_sub hx, gX8_odds_113, pk_mul, Option.bind_some, nI_1, Option.bind_some]
        exact e
theorem m_od73 {x k n : Nat} {w x6 : Int32} (hx : x ≤ 10) (hk : k < 8) (hn : n < 8) : ∀ fu S, S ≤ 2 ^ n → 2 ^ n - S < fu → gX8_odds_73 fu (nI x) (nI k) (nI n) w (nI (abv x k n S)) x6 (nI S) = gX8_lowest (nI (abv x k n (2 ^ n))) x6 w := by
  have h2 : 2 ^ n ≤ 128 := Nat.pow_le_pow_right (by decide) (show n ≤ 7 by omega)
  intro fu
  induction fu with
  | zero => intro i _ h2; omega
  | succ fu ih =>
    intro S h1 h2
    rw [gX8_odds_73, shl1 (by omega)]
    by_cases hi : 2 ^ n ≤ S
    · rw [if_pos (nI_le hi (by omega)), show S = 2 ^ n by omega]
      cases gX8_lowest (nI (abv x k n (2 ^ n))) x6 w <;> rfl
    · rw [if_neg (nI_ge (by omega) (by omega)), i_0, show (1 : Int32) = nI (prd x S 0) from rfl]
      refine (m_od87 hx hk hn (by omega) (gX8_odds_73 fu) FU 0 (by omega) (by unfold FU; omega)).trans ?_
      rw [nI_add]
      exact ih (S + 1) (by omega) (by omega)
theorem m_od51 {x k n : Nat} {w : Int32} (hx : x ≤ 10) (hk : k < 8) (hn : n < 8) : ∀ fu i, i ≤ n → n - i < fu → gX8_odds_51 fu (nI x) (nI k) (nI n) w 0 (nI (10 ^ i)) (nI i) = gX8_lowest (nI (abv x k n (2 ^ n))) (nI (10 ^ n)) w := by
  have h2 : 2 ^ n ≤ 128 := Nat.pow_le_pow_right (by decide) (show n ≤ 7 by omega)
  intro fu
  induction fu with
  | zero => intro i _ h2; omega
  | succ fu ih =>
    intro i h1 h2
    rw [gX8_odds_51]
    by_cases hi : n ≤ i
    · rw [if_pos (nI_le hi (by omega)), show i = n by omega, i_0]
      exact m_od73 hx hk hn FU 0 (Nat.zero_le _) (by unfold FU; omega)
    · rw [if_neg (nI_ge (by omega) (by omega)), i_10, pk_mul, Option.bind_some, nI_1, Option.bind_some, ← Nat.pow_succ]
      exact ih (i + 1) (by omega) (by omega)
theorem c_od74 {n a : Nat} {w : Int32} (hn : n < 8) (ha : a < 2147483648) : gX7_odds_74 (nI n) w (nI a) = gX8_lowest (nI a) (nI (10 ^ n)) w := by
  have h2 : 10 ^ n ≤ 10 ^ 7 := Nat.pow_le_pow_right (by decide) (show n ≤ 7 by omega)
  have h3 : 0 < 10 ^ n := Nat.pow_pos (by decide)
  have h4 : (10 : Nat) ^ 7 < 2 ^ 24 := by decide
  have h5 : (2 : Nat) ^ 24 = 16777216 := by decide
  have hg : 0 < Nat.gcd a (10 ^ n) := Nat.gcd_pos_of_pos_right _ h3
  have hg2 : Nat.gcd a (10 ^ n) ≤ 10 ^ n := Nat.gcd_le_right _ h3
  have g1 : gX7_commonDivisor (nI a) (nI (10 ^ n)) = some (nI (Nat.gcd a (10 ^ n))) := by
    rw [gX7_commonDivisor, i_0]
    exact c_gcd 24 (by omega) FU 0 a (10 ^ n) (by omega) ha (by omega) (by omega) (by unfold FU; omega)
  have g2 := m_gcd (x0 := nI a) (x1 := nI (10 ^ n)) (x2 := w) 24 (by omega) FU a (10 ^ n) (by omega) ha (by omega) (by unfold FU; omega)
  rw [gX7_odds_74, i_10, c_pow (by omega), Option.bind_some, g1, Option.bind_some, if_pos (show (0 : Int32) < nI _ from nI_lt (a := 0) hg (by omega)), gX8_lowest, g2]
  by_cases hw : w = 0
  · rw [if_pos hw, if_pos hw]; rfl
  · rw [if_neg hw, if_neg hw]; rfl
theorem low_some {a n : Nat} {w : Int32} (hn : n < 8) (ha : a < 2147483648) : ∃ r, gX8_lowest (nI a) (nI (10 ^ n)) w = some r := by
  have h2 : 10 ^ n ≤ 10 ^ 7 := Nat.pow_le_pow_right (by decide) (show n ≤ 7 by omega)
  have h3 : 0 < 10 ^ n := Nat.pow_pos (by decide)
  have h4 : (10 : Nat) ^ 7 < 2 ^ 24 := by decide
  have h5 : (2 : Nat) ^ 24 = 16777216 := by decide
  have hg : 0 < Nat.gcd a (10 ^ n) := Nat.gcd_pos_of_pos_right _ h3
  have hg2 : Nat.gcd a (10 ^ n) ≤ 10 ^ n := Nat.gcd_le_right _ h3
  have g2 := m_gcd (x0 := nI a) (x1 := nI (10 ^ n)) (x2 := w) 24 (by omega) FU a (10 ^ n) (by omega) ha (by omega) (by unfold FU; omega)
  rw [gX8_lowest, g2]
  by_cases hw : w = 0
  · rw [if_pos hw, gX8_lowest_35, nz_n hg (by omega), Option.bind_some]; exact ⟨_, rfl⟩
  · rw [if_neg hw, gX8_lowest_35, nz_n hg (by omega), Option.bind_some]; exact ⟨_, rfl⟩
theorem sim_odds : Sim_odds II := by
  intro MC TC MM TM hI a1 a2 a3 a4
  rcases wi a1 10 (by decide) with ⟨x, hx, rfl, k1, k2⟩ | ⟨k1, k2⟩
  · replace k1 : gX7_within (nI x) 0 10 = some 1 := k1
    replace k2 : gX8_in (nI x) 0 10 = some 1 := k2
    rcases wi a2 7 (by decide) with ⟨k, hk, rfl, k3, k4⟩ | ⟨k3, k4⟩
    · replace k3 : gX7_within (nI k) 0 7 = some 1 := k3
      replace k4 : gX8_in (nI k) 0 7 = some 1 := k4
      rcases wi a3 7 (by decide) with ⟨n, hn, rfl, k5, k6⟩ | ⟨k5, k6⟩
      · replace k5 : gX7_within (nI n) 0 7 = some 1 := k5
        replace k6 : gX8_in (nI n) 0 7 = some 1 := k6
        rcases wi a4 1 (by decide) with ⟨w, hw, rfl, k7, k8⟩ | ⟨k7, k8⟩
        · replace k7 : gX7_within (nI w) 0 1 = some 1 := k7
          replace k8 : gX8_in (nI w) 0 1 = some 1 := k8
          obtain ⟨t1, t2⟩ := cnt_le n (by omega) k (by omega)
          have hab := abv_cnt (x := x) (k := k) (n := n) (by omega) (2 ^ n) (Nat.le_refl _)
          have hal : abv x k n (2 ^ n) < 2147483648 := by
            rw [hab]
            by_cases hkn : n < k
            · rw [t2 hkn, Nat.zero_mul]; decide
            · have u1 : x ^ k ≤ 10 ^ k := Nat.pow_le_pow_left hx k
              have u2 : (10 - x) ^ (n - k) ≤ 10 ^ (n - k) := Nat.pow_le_pow_left (by omega) _
              have u3 : x ^ k * (10 - x) ^ (n - k) ≤ 10 ^ n := by
                have := Nat.mul_le_mul u1 u2
                rwa [← Nat.pow_add, show k + (n - k) = n by omega] at this
              have u4 : 10 ^ n ≤ 10 ^ 7 := Nat.pow_le_pow_right (by decide) hn
              have u5 := Nat.mul_le_mul t1 (Nat.le_trans u3 u4)
              have u6 : 35 * 10 ^ 7 < 2147483648 := by decide
              omega
          have e2 : gX8_odds (nI x) (nI k) (nI n) (nI w) = gX8_lowest (nI (abv x k n (2 ^ n))) (nI (10 ^ n)) (nI w) := by
            rw [gX8_odds, k2, obs, if_neg (by decide), k4, obs, if_neg (by decide), k6, obs, if_neg (by decide), k8, obs, if_neg (by decide)]
            exact m_od51 hx (by omega) (by omega) FU 0 (Nat.zero_le _) (by unfold FU; omega)
          have e1 : gX7_odds (nI x) (nI k) (nI n) (nI w) = gX8_lowest (nI (abv x k n (2 ^ n))) (nI (10 ^ n)) (nI w) := by
            rw [gX7_odds, k1, obs, if_neg (by decide), k3, obs, if_neg (by decide), k5, obs, if_neg (by decide), k7, obs, if_neg (by decide)]
            by_cases hkn : n < k
            · rw [if_pos (nI_lt hkn (by omega)), hab, t2 hkn, Nat.zero_mul]
              exact c_od74 (a := 0) (by omega) (by omega)
            · rw [if_neg (nI_nlt (by omega) (by omega)), c_choose n (by omega) k (by omega) (by omega), obs, c_pow (by omega), obs, i_10, pk_sub hx, pk_sub (by omega), c_pow (by omega), obs, pk_mul, pk_mul, obs, Nat.mul_assoc, ← hab]
              exact c_od74 (by omega) hal
          obtain ⟨r, hr⟩ := low_some (a := abv x k n (2 ^ n)) (n := n) (w := nI w) (by omega) hal
          exact ⟨r, r, e1.trans hr, e2.trans hr, rfl, hI⟩
        · replace k7 : gX7_within a4 0 1 = some 0 := k7
          replace k8 : gX8_in a4 0 1 = some 0 := k8
          refine ⟨-1, -1, ?_, ?_, rfl, hI⟩
          · rw [gX7_odds, k1, obs, if_neg (by decide), k3, obs, if_neg (by decide), k5, obs, if_neg (by decide), k7, obs, if_pos rfl]
          · rw [gX8_odds, k2, obs, if_neg (by decide), k4, obs, if_neg (by decide), k6, obs, if_neg (by decide), k8, obs, if_pos rfl]
      · replace k5 : gX7_within a3 0 7 = some 0 := k5
        replace k6 : gX8_in a3 0 7 = some 0 := k6
        refine ⟨-1, -1, ?_, ?_, rfl, hI⟩
        · rw [gX7_odds, k1, obs, if_neg (by decide), k3, obs, if_neg (by decide), k5, obs, if_pos rfl]
        · rw [gX8_odds, k2, obs, if_neg (by decide), k4, obs, if_neg (by decide), k6, obs, if_pos rfl]
    · replace k3 : gX7_within a2 0 7 = some 0 := k3
      replace k4 : gX8_in a2 0 7 = some 0 := k4
      refine ⟨-1, -1, ?_, ?_, rfl, hI⟩
      · rw [gX7_odds, k1, obs, if_neg (by decide), k3, obs, if_pos rfl]
      · rw [gX8_odds, k2, obs, if_neg (by decide), k4, obs, if_pos rfl]
  · replace k1 : gX7_within a1 0 10 = some 0 := k1
    replace k2 : gX8_in a1 0 10 = some 0 := k2
    refine ⟨-1, -1, ?_, ?_, rfl, hI⟩
    · rw [gX7_odds, k1, obs, if_pos rfl]
    · rw [gX8_odds, k2, obs, if_pos rfl]
