theorem smod_n {p : Nat} (hp : p < 32) : ((nI p &&& 31).toBitVec.smod 32).toNat = p := (show ∀ p, p < 32 → ((nI p &&& 31).toBitVec.smod 32).toNat = p by decide +kernel) p hp
theorem shr1 {S p : Nat} (hS : S < 2147483648) (hp : p < 32) : (nI S >>> (nI p &&& 31)) &&& 1 = nI (S / 2 ^ p % 2) := by
  have h1 : S / 2 ^ p ≤ S := Nat.div_le_self _ _
  rw [pk_shrN hS _ p (smod_n hp), pk_andN (m := 1) (by omega) 1 (by decide)]
theorem shl1 {p : Nat} (hp : p < 31) : (1 : Int32) <<< (nI p &&& 31) = nI (2 ^ p) := (show ∀ p, p < 31 → (1 : Int32) <<< (nI p &&& 31) = nI (2 ^ p) by decide +kernel) p hp
abbrev bt (S p : Nat) : Prop := S / 2 ^ p % 2 = 1
theorem c_has {S p : Nat} (hS : S < 2147483648) (hp : p < 32) : gX7_has (nI S) (nI p) = some (if bt S p then 1 else 0) := by
  rw [gX7_has, shr1 hS hp]
  by_cases h : bt S p
  · rw [if_pos h, h, if_neg (show ¬ nI 1 = 0 by decide), gX7_has_13, zr_1]; rfl
  · have h0 : S / 2 ^ p % 2 = 0 := by have : ¬ S / 2 ^ p % 2 = 1 := h; omega
    rw [if_neg h, h0, if_pos (show nI 0 = 0 from rfl), gX7_has_13, zr_0]; rfl
theorem m_has {S p : Nat} (hS : S < 2147483648) (hp : p < 32) : gX8_has (nI S) (nI p) = some (if bt S p then 1 else 0) := by
  rw [gX8_has, shr1 hS hp]
  by_cases h : bt S p
  · rw [if_pos h, h, if_pos (show nI 1 = 1 from rfl), gX8_has_14, zr_1]; rfl
  · have h0 : S / 2 ^ p % 2 = 0 := by have : ¬ S / 2 ^ p % 2 = 1 := h; omega
    rw [if_neg h, h0, if_neg (show ¬ nI 0 = 1 by decide), gX8_has_14, zr_0]; rfl
def pc (S : Nat) : Nat → Nat
  | 0 => 0
  | n + 1 => pc S n + S / 2 ^ n % 2
theorem pc_le (S : Nat) : ∀ n, pc S n ≤ n
  | 0 => Nat.le_refl 0
  | n + 1 => by
    have := pc_le S n
    unfold pc
    omega
theorem m_bits_l {S : Nat} (hS : S < 2147483648) : ∀ n i, i ≤ 10 → 10 - i < n → gX8_bits_4 n (nI S) (nI (pc S i)) (nI i) = some (nI (pc S 10)) := by
  intro n
  induction n with
  | zero => intro i _ h2; omega
  | succ n ih =>
    intro i h1 h2
    rw [gX8_bits_4]
    by_cases hi : 10 ≤ i
    · rw [if_pos (show (10 : Int32) ≤ nI i from nI_le (a := 10) hi (by omega)), show i = 10 by omega]
    · rw [if_neg (show ¬ (10 : Int32) ≤ nI i from nI_ge (b := 10) (by omega) (by omega)), shr1 hS (by omega), nI_add, Option.bind_some, nI_1, Option.bind_some]
      exact ih (i + 1) (by omega) (by omega)
theorem m_bits {S : Nat} (hS : S < 2147483648) : gX8_bits (nI S) = some (nI (pc S 10)) := m_bits_l hS FU 0 (by omega) (by unfold FU; omega)
theorem c_bits {S : Nat} (hS : S < 32) : gJ6_bitCount_0f7a4 (nI S) = some (nI (pc S 10)) := (show ∀ S, S < 32 → gJ6_bitCount_0f7a4 (nI S) = some (nI (pc S 10)) by decide +kernel) S hS
theorem pc5 {S : Nat} (hS : S < 32) : pc S 10 < 6 := (show ∀ S, S < 32 → pc S 10 < 6 by decide +kernel) S hS
-- wig
def thI (h : Nat → Nat) : Nat → Int32
  | 0 => 0
  | n + 1 => thI h n ||| (1 <<< (nI (h n) &&& 31))
def thS (f : Nat → Int32) (S : Nat) : Nat → Int32
  | 0 => 0
  | n + 1 => if bt S n then thS f S n ||| f n else thS f S n
theorem c_thIn_l {M : Mem} {o pe lg : Nat} {B : Blk} (hpe : pe ≤ 5) (hlg : lg ≤ 12) (hW : WfB pe lg B) (h : MoC M o pe B) {p : Nat} (hp : p < pe) : ∀ n i, i ≤ bS B p → bS B p - i < n → gX1_thoughtsIn_4 o n (nI p) (thI (bH B p) i) (nI i) M = some (thI (bH B p) (bS B p)) := by
  have hs := hW.2.2.1 p hp
  intro n
  induction n with
  | zero => intro i _ h2; omega
  | succ n ih =>
    intro i h1 h2
    rw [gX1_thoughtsIn_4, c_size hpe h hp, Option.bind_some]
    by_cases hi : bS B p ≤ i
    · rw [if_pos (nI_le hi (by omega)), show bS B p = i by omega]
    · rw [if_neg (nI_ge (by omega) (by omega)), c_layer hpe hlg hW h hp (by omega), Option.bind_some, Option.bind_some, nI_1, Option.bind_some]
      exact ih (i + 1) (by omega) (by omega)
theorem c_thIn {M : Mem} {o pe lg : Nat} {B : Blk} (hpe : pe ≤ 5) (hlg : lg ≤ 12) (hW : WfB pe lg B) (h : MoC M o pe B) {p : Nat} (hp : p < pe) : gX1_thoughtsIn o (nI p) M = some (thI (bH B p) (bS B p)) := by
  have hs := hW.2.2.1 p hp
  exact c_thIn_l hpe hlg hW h hp FU 0 (by omega) (by unfold FU; omega)
theorem c_thOf_l {M : Mem} {pe S : Nat} {f : Nat → Int32} (hpe : pe ≤ 5) (hS : S < 2147483648) (h : M 191 3 = nI pe) (hf : ∀ p, p < pe → M 196 p = f p) : ∀ n i, i ≤ pe → pe - i < n → gX7_thoughtsOf_4 n (nI S) (thS f S i) (nI i) M = some (thS f S pe) := by
  intro n
  induction n with
  | zero => intro i _ h2; omega
  | succ n ih =>
    intro i h1 h2
    rw [gX7_thoughtsOf_4, h]
    by_cases hi : pe ≤ i
    · rw [if_pos (nI_le hi (by omega)), show pe = i by omega]
    · rw [if_neg (nI_ge (by omega) (by omega)), c_has hS (by omega), Option.bind_some]
      have e := ih (i + 1) (by omega) (by omega)
      rw [thS] at e
      by_cases hb : bt S i
      · rw [if_pos hb] at e ⊢
        rw [if_neg (by decide), ldA_n _ (by omega) (by decide), hf i (by omega), Option.bind_some, Option.bind_some, gX7_thoughtsOf_32, nI_1, Option.bind_some]
        exact e
      · rw [if_neg hb] at e ⊢
        rw [if_pos rfl, gX7_thoughtsOf_32, nI_1, Option.bind_some]
        exact e
theorem c_thOf {M : Mem} {pe S : Nat} {f : Nat → Int32} (hpe : pe ≤ 5) (hS : S < 2147483648) (h : M 191 3 = nI pe) (hf : ∀ p, p < pe → M 196 p = f p) : gX7_thoughtsOf (nI S) M = some (thS f S pe) := c_thOf_l hpe hS h hf FU 0 (by omega) (by unfold FU; omega)
theorem m_thOf15 {M : Mem} {pe lg S : Nat} {B : Blk} {x : Int32} (hpe : pe ≤ 5) (hlg : lg ≤ 12) (hW : WfB pe lg B) (h : MoM (M 201) 0 pe B) (hS : S < 2147483648) {p : Nat} (hp : p < pe) (k4 : Int32 → Int32 → Int32 → Mem → Option Int32) (hb : bt S p) : ∀ n i, i ≤ bS B p → bS B p - i < n → gX8_thoughtsOf_15 k4 n (nI S) (x ||| thI (bH B p) i) (nI p) (nI i) M = k4 (nI S) (x ||| thI (bH B p) (bS B p)) (nI (p + 1)) M := by
  have hs := hW.2.2.1 p hp
  intro n
  induction n with
  | zero => intro i _ h2; omega
  | succ n ih =>
    intro i h1 h2
    rw [gX8_thoughtsOf_15, m_size hpe h hp, Option.bind_some]
    by_cases hi : bS B p ≤ i
    · rw [if_pos (nI_le hi (by omega)), show bS B p = i by omega, gX8_thoughtsOf_54, nI_1, Option.bind_some]
    · rw [if_neg (nI_ge (by omega) (by omega)), m_has hS (by omega), Option.bind_some, if_pos hb, if_neg (by decide), m_layer hpe hlg hW h hp (by omega), Option.bind_some, Option.bind_some, nI_1, Option.bind_some, Int32.or_assoc]
      exact ih (i + 1) (by omega) (by omega)
theorem m_thOf_l {M : Mem} {pe lg S : Nat} {B : Blk} (hpe : pe ≤ 5) (hlg : lg ≤ 12) (hW : WfB pe lg B) (h0 : M 197 0 = nI pe) (h : MoM (M 201) 0 pe B) (hS : S < 2147483648) : ∀ n i, i ≤ pe → pe - i < n → gX8_thoughtsOf_4 n (nI S) (thS (fun p => thI (bH B p) (bS B p)) S i) (nI i) M = some (thS (fun p => thI (bH B p) (bS B p)) S pe) := by
  intro n
  induction n with
  | zero => intro i _ h2; omega
  | succ n ih =>
    intro i h1 h2
    rw [gX8_thoughtsOf_4, h0]
    by_cases hi : pe ≤ i
    · rw [if_pos (nI_le hi (by omega)), show pe = i by omega]
    · have hs := hW.2.2.1 i (by omega)
      rw [if_neg (nI_ge (by omega) (by omega))]
      have e := ih (i + 1) (by omega) (by omega)
      rw [thS] at e
      by_cases hb : bt S i
      · rw [if_pos hb] at e
        have g := m_thOf15 (x := thS (fun p => thI (bH B p) (bS B p)) S i) hpe hlg hW h hS (show i < pe by omega) (gX8_thoughtsOf_4 n) hb FU 0 (by omega) (by unfold FU; omega)
        rw [thI, Int32.or_zero] at g
        rw [i_0]
        exact g.trans e
      · rw [if_neg hb] at e
        rw [show FU = 4095 + 1 from rfl, gX8_thoughtsOf_15, m_size hpe h (by omega), Option.bind_some, m_has hS (by omega), Option.bind_some, if_neg hb, gX8_thoughtsOf_54, nI_1, Option.bind_some]
        rw [if_pos (show (0 : Int32) = 0 from rfl), ite_self]
        exact e
theorem m_thOf {M : Mem} {pe lg S : Nat} {B : Blk} (hpe : pe ≤ 5) (hlg : lg ≤ 12) (hW : WfB pe lg B) (h0 : M 197 0 = nI pe) (h : MoM (M 201) 0 pe B) (hS : S < 2147483648) : gX8_thoughtsOf (nI S) M = some (thS (fun p => thI (bH B p) (bS B p)) S pe) := m_thOf_l hpe hlg hW h0 h hS FU 0 (by omega) (by unfold FU; omega)
theorem bv_sub (x y : BitVec 32) : (x &&& y = y) ↔ (y &&& (x ^^^ (BitVec.allOnes 32)) = 0#32) := by
  constructor
  · intro h
    apply BitVec.eq_of_getLsbD_eq
    intro i hi
    have := congrArg (fun z => z.getLsbD i) h
    simp only [BitVec.getLsbD_and] at this
    simp only [BitVec.getLsbD_and, BitVec.getLsbD_xor, BitVec.getLsbD_allOnes, hi, decide_true, BitVec.getLsbD_zero]
    revert this
    cases x.getLsbD i <;> cases y.getLsbD i <;> decide
  · intro h
    apply BitVec.eq_of_getLsbD_eq
    intro i hi
    have := congrArg (fun z => z.getLsbD i) h
    simp only [BitVec.getLsbD_and, BitVec.getLsbD_xor, BitVec.getLsbD_allOnes, hi, decide_true, BitVec.getLsbD_zero] at this
    simp only [BitVec.getLsbD_and]
    revert this
    cases x.getLsbD i <;> cases y.getLsbD i <;> decide
theorem i32_sub (x y : Int32) : (x &&& y = y) ↔ (y &&& (x ^^^ (-1)) = 0) := by
  rw [← Int32.toBitVec_inj, ← Int32.toBitVec_inj, Int32.toBitVec_and, Int32.toBitVec_and, Int32.toBitVec_xor]
  exact bv_sub x.toBitVec y.toBitVec
def wgs (ok : Nat → Prop) [DecidablePred ok] : Nat → Nat
  | 0 => 0
  | n + 1 => if ok n ∧ (wgs ok n = 0 ∨ pc n 10 < pc (wgs ok n - 1) 10) then n + 1 else wgs ok n
theorem wgs_le (ok : Nat → Prop) [DecidablePred ok] : ∀ n, wgs ok n ≤ n
  | 0 => Nat.le_refl 0
  | n + 1 => by
    have := wgs_le ok n
    unfold wgs
    split <;> omega
def fw (w : Nat) : Nat := if w = 0 then 6 else pc (w - 1) 10
theorem fw_le (w : Nat) : fw w ≤ 10 := by
  unfold fw
  have := pc_le (w - 1) 10
  split <;> omega
theorem pw32 {pe : Nat} (hpe : pe ≤ 5) : 2 ^ pe ≤ 32 := Nat.pow_le_pow_right (by decide) (show pe ≤ 5 from hpe)
theorem c_wig58 {M : Mem} {pe : Nat} {f : Nat → Int32} {x1 : Int32} (hpe : pe ≤ 5) (h : M 191 3 = nI pe) (hf : ∀ p, p < pe → M 196 p = f p) : ∀ n i, i ≤ 2 ^ pe → 2 ^ pe - i < n → gX7_wig_58 n x1 (mi (wgs (fun S => thS f S pe &&& x1 = x1) i)) (nI (fw (wgs (fun S => thS f S pe &&& x1 = x1) i))) (nI i) M = some (mi (wgs (fun S => thS f S pe &&& x1 = x1) (2 ^ pe)), M) := by
  have hp := pw32 hpe
  intro n
  induction n with
  | zero => intro i _ h2; omega
  | succ n ih =>
    intro i h1 h2
    rw [gX7_wig_58, h, shl1 (by omega)]
    by_cases hi : 2 ^ pe ≤ i
    · rw [if_pos (nI_le hi (by omega)), show i = 2 ^ pe by omega]
    · rw [if_neg (nI_ge (by omega) (by omega)), c_bits (by omega), Option.bind_some]
      have hfw := fw_le (wgs (fun S => thS f S pe &&& x1 = x1) i)
      have hpc := pc_le i 10
      have hp5 := pc5 (S := i) (by omega)
      have e := ih (i + 1) (by omega) (by omega)
      rw [wgs] at e
      by_cases hq : fw (wgs (fun S => thS f S pe &&& x1 = x1) i) ≤ pc i 10
      · rw [if_pos (nI_le hq (by omega)), gX7_wig_103, nI_1, Option.bind_some]
        rw [if_neg (by
          rintro ⟨_, h0 | h0⟩
          · unfold fw at hq; rw [if_pos h0] at hq; omega
          · unfold fw at hq
            by_cases hz : wgs (fun S => thS f S pe &&& x1 = x1) i = 0
            · rw [if_pos hz] at hq; omega
            · rw [if_neg hz] at hq; omega)] at e
        exact e
      · rw [if_neg (nI_ge (by omega) (by omega)), c_thOf hpe (by omega) h hf, Option.bind_some]
        by_cases hk : thS f i pe &&& x1 = x1
        · rw [if_pos hk, gX7_wig_103, nI_1, Option.bind_some]
          rw [if_pos (by
            refine ⟨hk, ?_⟩
            by_cases hz : wgs (fun S => thS f S pe &&& x1 = x1) i = 0
            · exact Or.inl hz
            · right; unfold fw at hq; rw [if_neg hz] at hq; omega)] at e
          exact e
        · rw [if_neg hk, gX7_wig_103, nI_1, Option.bind_some]
          rw [if_neg (fun q => hk q.1)] at e
          exact e
theorem c_wig15 {pe lg : Nat} {B : Blk} {x1 : Int32} (hpe : pe ≤ 5) (hlg : lg ≤ 12) (hW : WfB pe lg B) : ∀ n i, i ≤ pe → pe - i < n → ∀ (M : Mem), M 191 3 = nI pe → MoC M 9 pe B → (∀ p, p < i → M 196 p = thI (bH B p) (bS B p)) → ∃ M', gX7_wig_15 n x1 (nI i) M = some (mi (wgs (fun S => thS (fun p => thI (bH B p) (bS B p)) S pe &&& x1 = x1) (2 ^ pe)), M') ∧ ∀ a, a ≠ 196 → M' a = M a := by
  have hp := pw32 hpe
  intro n
  induction n with
  | zero => intro i _ h2; omega
  | succ n ih =>
    intro i h1 h2 M h0 h hf
    rw [gX7_wig_15, h0]
    by_cases hi : pe ≤ i
    · refine ⟨M, ?_, fun a _ => rfl⟩
      rw [if_pos (nI_le hi (by omega)), i_6, i_0]
      exact c_wig58 (f := fun p => thI (bH B p) (bS B p)) hpe h0 (fun p hp => hf p (by omega)) FU 0 (Nat.zero_le _) (by unfold FU; omega)
    · obtain ⟨M', e1, e2⟩ := ih (i + 1) (by omega) (by omega) (us M 196 i (thI (bH B i) (bS B i))) (by rw [us_ne _ _ _ (by decide)]; exact h0) (h.cg (fun a q1 q2 => us_ne _ _ _ (by omega))) (fun p hp => by
        rw [us_app]
        by_cases hpi : p = i
        · rw [if_pos ⟨rfl, hpi⟩, hpi]
        · rw [if_neg (fun z => hpi z.2)]; exact hf p (by omega))
      exact ⟨M', by rw [if_neg (nI_ge (by omega) (by omega)), c_thIn (o := 9) hpe hlg hW h (by omega), Option.bind_some, stA_n _ _ _ (by omega) (by decide), Option.bind_some, nI_1, Option.bind_some]; exact e1, fun a ha => by rw [e2 a ha, us_ne _ _ _ ha]⟩
theorem m_wig18 {M : Mem} {pe lg : Nat} {B : Blk} {x1 : Int32} (hpe : pe ≤ 5) (hlg : lg ≤ 12) (hW : WfB pe lg B) (h0 : M 197 0 = nI pe) (h : MoM (M 201) 0 pe B) : ∀ n i, i ≤ 2 ^ pe → 2 ^ pe - i < n → gX8_wig_18 n x1 (mi (wgs (fun S => thS (fun p => thI (bH B p) (bS B p)) S pe &&& x1 = x1) i)) (nI i) M = some (mi (wgs (fun S => thS (fun p => thI (bH B p) (bS B p)) S pe &&& x1 = x1) (2 ^ pe))) := by
  have hp := pw32 hpe
  intro n
  induction n with
  | zero => intro i _ h2; omega
  | succ n ih =>
    intro i h1 h2
    rw [gX8_wig_18, h0, shl1 (by omega)]
    by_cases hi : 2 ^ pe ≤ i
    · rw [if_pos (nI_le hi (by omega)), show i = 2 ^ pe by omega]
    · have e := ih (i + 1) (by omega) (by omega)
      rw [wgs] at e
      rw [if_neg (nI_ge (by omega) (by omega)), m_thOf hpe hlg hW h0 h (by omega), Option.bind_some]
      have hle := wgs_le (fun S => thS (fun p => thI (bH B p) (bS B p)) S pe &&& x1 = x1) i
      generalize hw : wgs (fun S => thS (fun p => thI (bH B p) (bS B p)) S pe &&& x1 = x1) i = w at e hle ⊢
      have hpc := pc_le i 10
      have hpw := pc_le (w - 1) 10
      by_cases hk : thS (fun p => thI (bH B p) (bS B p)) i pe &&& x1 = x1
      · rw [if_pos ((i32_sub _ _).mp hk)]
        by_cases hz : w = 0
        · rw [if_pos ⟨hk, Or.inl hz⟩] at e
          rw [if_pos (show mi w < 0 by rw [hz]; decide), gX8_wig_55, gX8_wig_60, if_neg (by decide), gX8_wig_72, nI_1, Option.bind_some]
          exact e
        · have hmi : mi w = nI (w - 1) := by unfold mi; rw [if_neg hz]
          rw [hmi]
          rw [if_neg (nI_pos (by omega)), m_bits (by omega), Option.bind_some, m_bits (by omega), Option.bind_some]
          by_cases hq : pc (w - 1) 10 ≤ pc i 10
          · rw [if_neg (by rintro ⟨_, q | q⟩ <;> omega), hmi] at e
            rw [if_pos (nI_le hq (by omega)), gX8_wig_59, gX8_wig_60, if_pos rfl, gX8_wig_72, nI_1, Option.bind_some]
            exact e
          · rw [if_pos ⟨hk, Or.inr (by omega)⟩] at e
            rw [if_neg (nI_ge (by omega) (by omega)), gX8_wig_55, gX8_wig_60, if_neg (by decide), gX8_wig_72, nI_1, Option.bind_some]
            exact e
      · rw [if_neg (fun q => hk q.1)] at e
        rw [if_neg (fun q => hk ((i32_sub _ _).mpr q)), gX8_wig_59, gX8_wig_60, if_pos rfl, gX8_wig_72, nI_1, Option.bind_some]
        exact e
theorem sim_wig : Sim_wig II := by
  intro MC TC MM TM hI a1
  obtain ⟨rfl, A, hW, hC, hM⟩ := hI
  obtain ⟨σ, hs, ht⟩ := id hC.2.2.1
  have hWB := hW.2.2.1.2.1
  have hpe := hW.2.1.1
  have hlg := hW.2.1.2.2.1
  have hp := pw32 hpe
  rcases wi a1 1023 (by decide) with ⟨s, hs2, rfl, k1, k2⟩ | ⟨k1, k2⟩
  · replace k1 : gX7_within (nI s) 0 1023 = some 1 := k1
    replace k2 : gX8_in (nI s) 0 1023 = some 1 := k2
    obtain ⟨N1, e1, e2⟩ := c_wig15 (x1 := nI s) hpe hlg hWB FU 0 (by omega) (by unfold FU; omega) MC hC.2.1.1 ht.2.1 (fun p hp => absurd hp (Nat.not_lt_zero p))
    have f1 := m_wig18 (x1 := nI s) hpe hlg hWB hM.2.1.1 hM.2.2.1.2.1 FU 0 (Nat.zero_le _) (by unfold FU; omega)
    have e1' : gX7_wig_15 FU (nI s) 0 MC = some (mi (wgs (fun S => thS (fun p => thI (bH (mB (aT A)) p) (bS (mB (aT A)) p)) S (tP (aW A)) &&& nI s = nI s) (2 ^ tP (aW A))), N1) := by rw [i_0]; exact e1
    have f1' : gX8_wig_18 FU (nI s) (-9) 0 MM = some (mi (wgs (fun S => thS (fun p => thI (bH (mB (aT A)) p) (bS (mB (aT A)) p)) S (tP (aW A)) &&& nI s = nI s) (2 ^ tP (aW A)))) := by rw [i_0]; exact f1
    have hCN : RC A N1 := hC.cg hW (e2 _ (by decide)) (e2 _ (by decide)) (fun a q1 q2 => e2 a (by omega)) (by rw [e2 _ (by decide)]) (by rw [e2 _ (by decide)]) (fun a q1 q2 => e2 a (by omega))
    refine ⟨(mi (wgs (fun S => thS (fun p => thI (bH (mB (aT A)) p) (bS (mB (aT A)) p)) S (tP (aW A)) &&& nI s = nI s) (2 ^ tP (aW A))), N1), _, ?_, ?_, rfl, rfl, A, hW, hCN, hM⟩
    · simp only [gX7_wig, k1, obs, e1']
      rw [if_neg (by decide)]
    · simp only [gX8_wig, k2, obs, f1']
      rw [if_neg (by decide)]
  · replace k1 : gX7_within a1 0 1023 = some 0 := k1
    replace k2 : gX8_in a1 0 1023 = some 0 := k2
    refine ⟨(-1, MC), -1, ?_, ?_, rfl, rfl, A, hW, hC, hM⟩
    · simp only [gX7_wig, k1, obs]; rw [if_pos trivial]
    · simp only [gX8_wig, k2, obs]; rw [if_pos trivial]
