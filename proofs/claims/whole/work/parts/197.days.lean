theorem mi_9 {m : Nat} (hm : m ≤ 10) (h0 : m ≠ 0) : ¬ mi m = -9 := by
  unfold mi
  rw [if_neg h0]
  intro q
  have := nI_pos (n := m - 1) (by omega)
  rw [q] at this
  exact this (by decide)
def th (W : Twn) (B : Blk) (p a : Nat) : Nat := if a = 0 ∧ bM B p ≠ 0 then bM B p - 1 else tK W p ((bD B + a) % tW W p)
theorem th_lt {W : Twn} {B : Blk} (hWT : WfT W) (hW : WfB (tP W) (tL W) B) {p : Nat} (hp : p < tP W) (a : Nat) : th W B p a < 10 := by
  unfold th
  have h1 := hW.2.2.2.1 p hp
  have h2 := hWT.2.2.2.2.1 p hp
  by_cases h : a = 0 ∧ bM B p ≠ 0
  · rw [if_pos h]; omega
  · rw [if_neg h]; exact hWT.2.2.2.2.2 p hp _ (Nat.mod_lt _ (by omega))
theorem c_usual {M : Mem} {W : Twn} (hWT : WfT W) (hC : ToC M W) {p d : Nat} (hp : p < tP W) (hd : d < 5000) : gX6_usualThought 191 (nI p) (nI d) M = some (nI (tK W p (d % tW W p))) := by
  have h1 := hWT.1
  have h2 := hWT.2.2.2.2.1 p hp
  have h3 := Nat.mod_lt d (show 0 < tW W p by omega)
  have s1 : ldA 5 (M (191 + 2)) (nI p) = some (nI (tW W p)) := by rw [ldA_n _ (by omega) (by decide)]; exact congrArg some (hC.2.2.2.1 p hp)
  have s2 : ldA 35 (M (191 + 3)) (nI (p * 7 + d % tW W p)) = some (nI (tK W p (d % tW W p))) := by rw [ldA_n _ (by omega) (by decide), show p * 7 + d % tW W p = 7 * p + d % tW W p by omega]; exact congrArg some (hC.2.2.2.2 p hp _ h3)
  rw [gX6_usualThought, s1, Option.bind_some, if_neg (nI_nle (by omega) (by omega)), nz_n (by omega) (by omega), Option.bind_some, pk_rem (by omega) (by omega) (by omega), i_7, pk_mul, nI_add, s2, Option.bind_some, gX6_usualThought_28]
theorem c_th {M : Mem} {o : Nat} {W : Twn} {B : Blk} (hWT : WfT W) (hC : ToC M W) (hW : WfB (tP W) (tL W) B) (h : MoC M o (tP W) B) {p a : Nat} (hp : p < tP W) (ha : a < 100) : gX1_thoughtAhead o 191 (nI p) (nI a) M = some (nI (th W B p a)) := by
  have h1 := hWT.1
  have hd := hW.1
  have hm := hW.2.2.2.1 p hp
  have s1 : ldA 5 (M (o + 2)) (nI p) = some (mi (bM B p)) := by rw [ldA_n _ (by omega) (by decide)]; exact congrArg some (h.2.2.2.1 p hp)
  have s2 : gX1_thoughtAhead_22 o 191 (nI p) (nI a) M = some (nI (tK W p ((bD B + a) % tW W p))) := by
    rw [gX1_thoughtAhead_22, h.1, nI_add, c_usual hWT hC hp (by omega), Option.bind_some]
  rw [gX1_thoughtAhead, s1, s2, Option.bind_some]
  unfold th
  by_cases h0 : a = 0
  · subst h0
    rw [if_pos (show nI 0 = (0 : Int32) from rfl)]
    by_cases hz : bM B p = 0
    · rw [if_neg (show ¬ (0 = 0 ∧ bM B p ≠ 0) from fun q => q.2 hz), if_pos (show mi (bM B p) = -9 by rw [hz]; rfl)]
    · rw [if_pos (show 0 = 0 ∧ bM B p ≠ 0 from ⟨rfl, hz⟩), if_neg (mi_9 hm hz), Option.bind_some]
      unfold mi
      rw [if_neg hz]
  · rw [if_neg (nI_ne0 (by omega) (by omega)), if_neg (fun q => h0 q.1)]
theorem m_th {M : Mem} {W : Twn} {B : Blk} (hWT : WfT W) (hC : ToM M W) (hW : WfB (tP W) (tL W) B) (h : MoM (M 201) 0 (tP W) B) {p a : Nat} (hp : p < tP W) (ha : a < 100) : gX8_thinks (nI p) (nI a) M = some (nI (th W B p a)) := by
  have h1 := hWT.1
  have hd := hW.1
  have hm := hW.2.2.2.1 p hp
  have h2 := hWT.2.2.2.2.1 p hp
  have h3 := Nat.mod_lt (bD B + a) (show 0 < tW W p by omega)
  have s1 : ldA 1233 (M 201) (67 + nI p) = some (mi (bM B p)) := by
    have e := h.2.2.2.1 p hp
    rw [Nat.zero_add] at e
    rw [i_67, nI_add, ldA_n _ (by omega) (by decide), e]
  have s0 : ldA 1233 (M 201) 0 = some (nI (bD B)) := by rw [i_0, ldA_n _ (by decide) (by decide)]; exact congrArg some h.1
  have s4 : ldA 5 (M 199) (nI p) = some (nI (tW W p)) := by rw [ldA_n _ (by omega) (by decide), hC.2.2.2.1 p hp]
  have s5 : ldA 35 (M 200) (nI (7 * p + (bD B + a) % tW W p)) = some (nI (tK W p ((bD B + a) % tW W p))) := by rw [ldA_n _ (by omega) (by decide), hC.2.2.2.2 p hp _ h3]
  have s2 : gX8_thinks_30 (nI p) (nI a) M = some (nI (tK W p ((bD B + a) % tW W p))) := by
    rw [gX8_thinks_30, s0, Option.bind_some, s4, Option.bind_some, nz_n (by omega) (by omega), Option.bind_some, nI_add, pk_rem (by omega) (by omega) (by omega), i_7, pk_mul, nI_add, s5, Option.bind_some, gX8_thinks_55]
  rw [gX8_thinks, s1, s2, Option.bind_some, Option.bind_some]
  unfold th
  by_cases h0 : a = 0
  · subst h0
    rw [if_pos (show nI 0 = (0 : Int32) from rfl)]
    by_cases hz : bM B p = 0
    · rw [if_neg (show ¬ (0 = 0 ∧ bM B p ≠ 0) from fun q => q.2 hz), if_pos (show mi (bM B p) = -9 by rw [hz]; rfl)]
    · rw [if_pos (show 0 = 0 ∧ bM B p ≠ 0 from ⟨rfl, hz⟩), if_neg (mi_9 hm hz), gX8_thinks_55]
      unfold mi
      rw [if_neg hz]
  · rw [if_neg (nI_ne0 (by omega) (by omega)), if_neg (fun q => h0 q.1)]
def growB (W : Twn) (B : Blk) (p : Nat) : Blk := appB (if bS B p = tL W then loseB (setM B p 0) p 1 else setM B p 0) p (th W B p 0)
theorem setM_W {pe lg : Nat} {B : Blk} (hW : WfB pe lg B) (p : Nat) : WfB pe lg (setM B p 0) := by
  refine ⟨hW.1, hW.2.1, hW.2.2.1, fun q hq => ?_, hW.2.2.2.2⟩
  show (if q = p then 0 else bM B q) ≤ 10
  have := hW.2.2.2.1 q hq
  split <;> omega
theorem appB_W {pe lg : Nat} {B : Blk} (hW : WfB pe lg B) {p t : Nat} (hp : p < pe) (hs : bS B p < lg) (ht : t < 10) : WfB pe lg (appB B p t) := by
  refine ⟨hW.1, hW.2.1, fun q hq => ?_, hW.2.2.2.1, fun q hq k hk => ?_, hW.2.2.2.2.2⟩
  · show (if q = p then bS B p + 1 else bS B q) ≤ lg
    have := hW.2.2.1 q hq
    split <;> omega
  · show (if q = p ∧ k = bS B p then t else bH B q k) < 10
    have hk : k < if q = p then bS B p + 1 else bS B q := hk
    by_cases hq2 : q = p ∧ k = bS B p
    · rw [if_pos hq2]; exact ht
    · rw [if_neg hq2]
      by_cases hqp : q = p
      · rw [if_pos hqp] at hk; exact hW.2.2.2.2.1 q hq k (by rw [hqp]; omega)
      · rw [if_neg hqp] at hk; exact hW.2.2.2.2.1 q hq k hk
theorem growB_W {W : Twn} {B : Blk} (hWT : WfT W) (hW : WfB (tP W) (tL W) B) {p : Nat} (hp : p < tP W) : WfB (tP W) (tL W) (growB W B p) := by
  have h1 := hWT.2.1
  have h2 := hW.2.2.1 p hp
  unfold growB
  by_cases h : bS B p = tL W
  · rw [if_pos h]
    refine appB_W (loseB_W (setM_W hW p) hp (show 1 ≤ bS B p by omega)) hp ?_ (th_lt hWT hW hp 0)
    show (if p = p then bS B p - 1 else bS B p) < tL W
    rw [if_pos rfl]; omega
  · rw [if_neg h]
    exact appB_W (setM_W hW p) hp (show bS B p < tL W by omega) (th_lt hWT hW hp 0)
theorem c_setM {M : Mem} {o pe : Nat} {B : Blk} (h : MoC M o pe B) (p : Nat) : MoC (us M (o + 2) p (-9)) o pe (setM B p 0) := by
  refine ⟨?_, ?_, fun q hq => ?_, fun q hq => ?_, fun q hq k hk => ?_, fun j hj t ht => ?_⟩
  · rw [us_ne _ _ _ (by omega)]; exact h.1
  · rw [us_ne _ _ _ (by omega)]; exact h.2.1
  · rw [us_ne _ _ _ (by omega)]; exact h.2.2.1 q hq
  · show us M (o + 2) p (-9) (o + 2) q = mi (if q = p then 0 else bM B q)
    rw [us_app]
    by_cases hqp : q = p
    · rw [if_pos ⟨rfl, hqp⟩, if_pos hqp]; rfl
    · rw [if_neg (fun z => hqp z.2), if_neg hqp]; exact h.2.2.2.1 q hq
  · rw [us_ne _ _ _ (by omega)]; exact h.2.2.2.2.1 q hq k hk
  · rw [us_ne _ _ _ (by omega)]; exact h.2.2.2.2.2 j hj t ht
theorem m_setM {M : Mem} {pe : Nat} {B : Blk} (hpe : pe ≤ 5) (hS : ∀ q, q < pe → bS B q ≤ 12) (h : MoM (M 201) 0 pe B) {p : Nat} (hp : p < pe) : MoM (us M 201 (67 + p) (-9) 201) 0 pe (setM B p 0) := by
  refine ⟨?_, ?_, fun q hq => ?_, fun q hq => ?_, fun q hq k hk => ?_, fun j hj t ht => ?_⟩
  · rw [us_app, if_neg (by omega)]; exact h.1
  · rw [us_app, if_neg (by omega)]; exact h.2.1
  · rw [us_app, if_neg (by omega)]; exact h.2.2.1 q hq
  · show us M 201 (67 + p) (-9) 201 (0 + (67 + q)) = mi (if q = p then 0 else bM B q)
    rw [us_app]
    by_cases hqp : q = p
    · rw [if_pos ⟨rfl, by omega⟩, if_pos hqp]; rfl
    · rw [if_neg (by omega), if_neg hqp]; exact h.2.2.2.1 q hq
  · have hk : k < bS B q := hk
    have := hS q hq
    rw [us_app, if_neg (by omega)]; exact h.2.2.2.2.1 q hq k hk
  · rw [us_app, if_neg (by omega)]; exact h.2.2.2.2.2 j hj t ht
theorem c_app {M : Mem} {o pe : Nat} {B : Blk} (hpe : pe ≤ 5) (hS : ∀ q, q < pe → bS B q ≤ 12) (h : MoC M o pe B) {p t : Nat} (hp : p < pe) (hs : bS B p < 12) (k2 : Int32 → Mem → Option Mem) : ∃ M', gX1_passDay_45 o 191 k2 (nI p) (nI t) M = k2 (nI (p + 1)) M' ∧ MoC M' o pe (appB B p t) ∧ ∀ a, a < o ∨ o + 5 ≤ a → M' a = M a := by
  have e1 := c_size hpe h hp
  have e2 : ldA 5 (us M (o + 3) (p * 12 + bS B p) (nI t) (o + 1)) (nI p) = some (nI (bS B p)) := by rw [us_ne _ _ _ (by omega)]; exact e1
  refine ⟨us (us M (o + 3) (p * 12 + bS B p) (nI t)) (o + 1) p (nI (bS B p + 1)), ?_, ⟨?_, ?_, fun q hq => ?_, fun q hq => ?_, fun q hq k hk => ?_, fun j hj t' ht => ?_⟩, fun a ha => ?_⟩
  · rw [gX1_passDay_45, e1, Option.bind_some, i_12, pk_mul, nI_add, stA_n _ _ _ (by omega) (by decide), Option.bind_some, e2, Option.bind_some, nI_1, stA_n _ _ _ (by omega) (by decide), Option.bind_some, nI_1, Option.bind_some]
  · rw [us_ne _ _ _ (by omega), us_ne _ _ _ (by omega)]; exact h.1
  · rw [us_ne _ _ _ (by omega), us_ne _ _ _ (by omega)]; exact h.2.1
  · show us (us M (o + 3) (p * 12 + bS B p) (nI t)) (o + 1) p (nI (bS B p + 1)) (o + 1) q = nI (if q = p then bS B p + 1 else bS B q)
    rw [us_app]
    by_cases hqp : q = p
    · rw [if_pos ⟨rfl, hqp⟩, if_pos hqp]
    · rw [if_neg (fun z => hqp z.2), if_neg hqp, us_ne _ _ _ (by omega)]; exact h.2.2.1 q hq
  · rw [us_ne _ _ _ (by omega), us_ne _ _ _ (by omega)]; exact h.2.2.2.1 q hq
  · show us (us M (o + 3) (p * 12 + bS B p) (nI t)) (o + 1) p (nI (bS B p + 1)) (o + 3) (12 * q + k) = nI (if q = p ∧ k = bS B p then t else bH B q k)
    have hk : k < if q = p then bS B p + 1 else bS B q := hk
    have := hS q hq
    rw [us_ne _ _ _ (by omega), us_app]
    by_cases hqp : q = p ∧ k = bS B p
    · rw [if_pos ⟨rfl, by omega⟩, if_pos hqp]
    · have hk2 : k < bS B q ∧ k < 12 := by
        by_cases h2 : q = p
        · rw [if_pos h2] at hk; rw [h2]; omega
        · rw [if_neg h2] at hk; omega
      rw [if_neg (by omega), if_neg hqp]; exact h.2.2.2.2.1 q hq k hk2.1
  · rw [us_ne _ _ _ (by omega), us_ne _ _ _ (by omega)]; exact h.2.2.2.2.2 j hj t' ht
  · rw [us_ne _ _ _ (by omega), us_ne _ _ _ (by omega)]
theorem m_app {M : Mem} {pe : Nat} {B : Blk} (hpe : pe ≤ 5) (hS : ∀ q, q < pe → bS B q ≤ 12) (h : MoM (M 201) 0 pe B) {p t : Nat} (hp : p < pe) (hs : bS B p < 12) : ∃ M', gX8_grows_39 (nI p) (nI t) M = some M' ∧ MoM (M' 201) 0 pe (appB B p t) ∧ (∀ a, a ≠ 201 → M' a = M a) ∧ ∀ j, 112 ≤ j → M' 201 j = M 201 j := by
  have e1 := m_size hpe h hp
  have e2 : ldA 1233 (us M 201 (7 + 12 * p + bS B p) (nI t) 201) (2 + nI p) = some (nI (bS B p)) := by
    rw [← e1, i_2, nI_add, ldA_n _ (by omega) (by decide), ldA_n _ (by omega) (by decide), us_app, if_neg (by omega)]
  refine ⟨us (us M 201 (7 + 12 * p + bS B p) (nI t)) 201 (2 + p) (nI (bS B p + 1)), ?_, ⟨?_, ?_, fun q hq => ?_, fun q hq => ?_, fun q hq k hk => ?_, fun j hj t' ht => ?_⟩, fun a ha => ?_, fun j hj => ?_⟩
  · rw [gX8_grows_39, e1, Option.bind_some, i_12, i_7, pk_mul, nI_add, nI_add, stA_n _ _ _ (by omega) (by decide), Option.bind_some, e2, Option.bind_some, nI_1, i_2, nI_add, stA_n _ _ _ (by omega) (by decide), Option.bind_some]
  · rw [us_app, if_neg (by omega), us_app, if_neg (by omega)]; exact h.1
  · rw [us_app, if_neg (by omega), us_app, if_neg (by omega)]; exact h.2.1
  · show us (us M 201 (7 + 12 * p + bS B p) (nI t)) 201 (2 + p) (nI (bS B p + 1)) 201 (0 + (2 + q)) = nI (if q = p then bS B p + 1 else bS B q)
    rw [us_app]
    by_cases hqp : q = p
    · rw [if_pos ⟨rfl, by omega⟩, if_pos hqp]
    · rw [if_neg (by omega), if_neg hqp, us_app, if_neg (by omega)]; exact h.2.2.1 q hq
  · rw [us_app, if_neg (by omega), us_app, if_neg (by omega)]; exact h.2.2.2.1 q hq
  · show us (us M 201 (7 + 12 * p + bS B p) (nI t)) 201 (2 + p) (nI (bS B p + 1)) 201 (0 + (7 + 12 * q + k)) = nI (if q = p ∧ k = bS B p then t else bH B q k)
    have hk : k < if q = p then bS B p + 1 else bS B q := hk
    have := hS q hq
    rw [us_app, if_neg (by omega), us_app]
    by_cases hqp : q = p ∧ k = bS B p
    · rw [if_pos ⟨rfl, by omega⟩, if_pos hqp]
    · have hk2 : k < bS B q ∧ k < 12 := by
        by_cases h2 : q = p
        · rw [if_pos h2] at hk; rw [h2]; omega
        · rw [if_neg h2] at hk; omega
      rw [if_neg (by omega), if_neg hqp]; exact h.2.2.2.2.1 q hq k hk2.1
  · rw [us_app, if_neg (by omega), us_app, if_neg (by omega)]; exact h.2.2.2.2.2 j hj t' ht
  · rw [us_ne _ _ _ ha, us_ne _ _ _ ha]
  · rw [us_app, if_neg (by omega), us_app, if_neg (by omega)]
theorem wfS {pe lg : Nat} {B : Blk} (hlg : lg ≤ 12) (hW : WfB pe lg B) : ∀ q, q < pe → bS B q ≤ 12 := fun q hq => Nat.le_trans (hW.2.2.1 q hq) hlg
theorem c_grow {M : Mem} {o : Nat} {W : Twn} {B : Blk} (ho : o + 5 ≤ 191) (hWT : WfT W) (hC : ToC M W) (hW : WfB (tP W) (tL W) B) (h : MoC M o (tP W) B) {p : Nat} (hp : p < tP W) (n : Nat) : ∃ M', gX1_passDay_2 o 191 (n + 1) (nI p) M = gX1_passDay_2 o 191 n (nI (p + 1)) M' ∧ MoC M' o (tP W) (growB W B p) ∧ ∀ a, a < o ∨ o + 5 ≤ a → M' a = M a := by
  have hpe := hWT.1
  have hlg := hWT.2.2.1
  have h1l := hWT.2.1
  have hsz := hW.2.2.1 p hp
  have g1 : gX1_thoughtAhead o 191 (nI p) 0 M = some (nI (th W B p 0)) := c_th (a := 0) hWT hC hW h hp (by omega)
  have hM1 := c_setM h p
  have hW1 := setM_W hW p
  have g2 : ldA 5 (us M (o + 2) p (-9) (o + 1)) (nI p) = some (nI (bS B p)) := c_size hpe hM1 hp
  have g3 : us M (o + 2) p (-9) 191 4 = nI (tL W) := by rw [us_ne _ _ _ (by omega)]; exact hC.2.1
  rw [gX1_passDay_2, hC.1, if_neg (nI_ge (by omega) (by omega)), g1, Option.bind_some, stA_n _ _ _ (by omega) (by decide), Option.bind_some, g2, Option.bind_some, g3]
  unfold growB
  by_cases hq : bS B p = tL W
  · rw [if_neg (nI_nlt (by omega) (by omega)), if_pos hq]
    obtain ⟨M2, a1, a2, a3⟩ := c_drop hpe hlg hW1 hM1 hp (n := 1) (show 1 ≤ bS B p by omega)
    have hsl : bS (loseB (setM B p 0) p 1) p < 12 := by
      show (if p = p then bS B p - 1 else bS B p) < 12
      rw [if_pos rfl]; omega
    obtain ⟨M3, b1, b2, b3⟩ := c_app hpe (wfS hlg (loseB_W hW1 hp (n := 1) (show 1 ≤ bS B p by omega))) a2 (t := th W B p 0) hp hsl (gX1_passDay_2 o 191 n)
    rw [i_1, a1, Option.bind_some, b1]
    exact ⟨M3, rfl, b2, fun a ha => by rw [b3 a ha, a3 a ha, us_ne _ _ _ (by omega)]⟩
  · rw [if_pos (nI_lt (by omega) (by omega)), if_neg hq]
    obtain ⟨M3, b1, b2, b3⟩ := c_app hpe (wfS hlg hW1) hM1 (t := th W B p 0) hp (show bS B p < 12 by omega) (gX1_passDay_2 o 191 n)
    rw [b1]
    exact ⟨M3, rfl, b2, fun a ha => by rw [b3 a ha, us_ne _ _ _ (by omega)]⟩
theorem m_grow {M : Mem} {W : Twn} {B : Blk} (hWT : WfT W) (hC : ToM M W) (hW : WfB (tP W) (tL W) B) (h : MoM (M 201) 0 (tP W) B) {p : Nat} (hp : p < tP W) : ∃ M', gX8_grows (nI p) M = some M' ∧ MoM (M' 201) 0 (tP W) (growB W B p) ∧ (∀ a, a ≠ 201 → M' a = M a) ∧ ∀ j, 112 ≤ j → M' 201 j = M 201 j := by
  have hpe := hWT.1
  have hlg := hWT.2.2.1
  have h1l := hWT.2.1
  have hsz := hW.2.2.1 p hp
  have g1 : gX8_thinks (nI p) 0 M = some (nI (th W B p 0)) := m_th (a := 0) hWT hC hW h hp (by omega)
  have hM1 := m_setM hpe (wfS hlg hW) h hp
  have hW1 := setM_W hW p
  have g2 : ldA 1233 (us M 201 (67 + p) (-9) 201) (2 + nI p) = some (nI (bS B p)) := m_size hpe hM1 hp
  have g3 : us M 201 (67 + p) (-9) 197 4 = nI (tL W) := by rw [us_ne _ _ _ (by omega)]; exact hC.2.1
  rw [gX8_grows, g1, Option.bind_some, i_67, nI_add, stA_n _ _ _ (by omega) (by decide), Option.bind_some, g2, Option.bind_some, g3]
  unfold growB
  by_cases hq : bS B p = tL W
  · rw [if_pos (congrArg nI hq), if_pos hq]
    obtain ⟨M2, a1, a2, a3, a4⟩ := m_lose hpe hlg hW1 hM1 hp (n := 1) (show 1 ≤ bS B p by omega)
    have hsl : bS (loseB (setM B p 0) p 1) p < 12 := by
      show (if p = p then bS B p - 1 else bS B p) < 12
      rw [if_pos rfl]; omega
    obtain ⟨M3, b1, b2, b3, b4⟩ := m_app hpe (wfS hlg (loseB_W hW1 hp (n := 1) (show 1 ≤ bS B p by omega))) a2 (t := th W B p 0) hp hsl
    rw [i_1, a1, Option.bind_some, b1]
    exact ⟨M3, rfl, b2, fun a ha => by rw [b3 a ha, a3 a ha, us_ne _ _ _ ha], fun j hj => by rw [b4 j hj, a4 j hj, us_app, if_neg (by omega)]⟩
  · rw [if_neg (fun q => hq (nI_inj (by omega) (by omega) q)), if_neg hq]
    obtain ⟨M3, b1, b2, b3, b4⟩ := m_app hpe (wfS hlg hW1) hM1 (t := th W B p 0) hp (show bS B p < 12 by omega)
    rw [b1]
    exact ⟨M3, rfl, b2, fun a ha => by rw [b3 a ha, us_ne _ _ _ ha], fun j hj => by rw [b4 j hj, us_app, if_neg (by omega)]⟩
def grw (W : Twn) (B : Blk) : Nat → Blk
  | 0 => B
  | p + 1 => growB W (grw W B p) p
def day1 (W : Twn) (B : Blk) : Blk := setD (grw W B (tP W)) (bD (grw W B (tP W)) + 1)
def dysN (W : Twn) (B : Blk) : Nat → Blk
  | 0 => B
  | n + 1 => day1 W (dysN W B n)
theorem growB_D (W : Twn) (B : Blk) (p : Nat) : bD (growB W B p) = bD B := by
  unfold growB
  by_cases h : bS B p = tL W
  · rw [if_pos h]; rfl
  · rw [if_neg h]; rfl
theorem grw_D (W : Twn) (B : Blk) : ∀ p, bD (grw W B p) = bD B
  | 0 => rfl
  | p + 1 => by rw [grw, growB_D, grw_D W B p]
theorem dysN_D (W : Twn) (B : Blk) : ∀ n, bD (dysN W B n) = bD B + n
  | 0 => rfl
  | n + 1 => by
    show bD (grw W (dysN W B n) (tP W)) + 1 = _
    rw [grw_D, dysN_D W B n]; omega
theorem grw_W {W : Twn} {B : Blk} (hWT : WfT W) (hW : WfB (tP W) (tL W) B) : ∀ p, p ≤ tP W → WfB (tP W) (tL W) (grw W B p)
  | 0, _ => hW
  | p + 1, h => growB_W hWT (grw_W hWT hW p (by omega)) (by omega)
theorem dysN_W {W : Twn} {B : Blk} (hWT : WfT W) (hW : WfB (tP W) (tL W) B) : ∀ n, bD B + n ≤ 999 → WfB (tP W) (tL W) (dysN W B n)
  | 0, _ => hW
  | n + 1, h => by
    have h1 := grw_W hWT (dysN_W hWT hW n (by omega)) (tP W) (Nat.le_refl _)
    refine ⟨?_, h1.2⟩
    show bD (grw W (dysN W B n) (tP W)) + 1 ≤ 999
    rw [grw_D, dysN_D]; omega
theorem c_pass_l {o : Nat} {W : Twn} {B : Blk} (ho : o + 5 ≤ 191) (hWT : WfT W) (hW : WfB (tP W) (tL W) B) : ∀ n p, p ≤ tP W → tP W - p < n → ∀ (M : Mem), ToC M W → MoC M o (tP W) (grw W B p) → ∃ M', gX1_passDay_2 o 191 n (nI p) M = some M' ∧ MoC M' o (tP W) (day1 W B) ∧ ∀ a, a < o ∨ o + 5 ≤ a → M' a = M a := by
  have hpe := hWT.1
  intro n
  induction n with
  | zero => intro p _ h2; omega
  | succ n ih =>
    intro p h1 h2 M hC h
    by_cases hp : tP W ≤ p
    · have hp2 : p = tP W := by omega
      subst hp2
      refine ⟨us M o 4 (nI (bD (grw W B (tP W)) + 1)), ?_, ⟨?_, ?_, fun q hq => ?_, fun q hq => ?_, fun q hq k hk => ?_, fun j hj t ht => ?_⟩, fun a ha => us_ne _ _ _ (by omega)⟩
      · rw [gX1_passDay_2, hC.1, if_pos (nI_le hp (by omega)), h.1, nI_1, Option.bind_some]
      · rw [us_app, if_pos ⟨rfl, rfl⟩]; rfl
      · rw [us_app, if_neg (by omega)]; exact h.2.1
      · rw [us_ne _ _ _ (by omega)]; exact h.2.2.1 q hq
      · rw [us_ne _ _ _ (by omega)]; exact h.2.2.2.1 q hq
      · rw [us_ne _ _ _ (by omega)]; exact h.2.2.2.2.1 q hq k hk
      · rw [us_ne _ _ _ (by omega)]; exact h.2.2.2.2.2 j hj t ht
    · obtain ⟨M1, a1, a2, a3⟩ := c_grow ho hWT hC (grw_W hWT hW p h1) h (show p < tP W by omega) n
      rw [a1]
      obtain ⟨M2, b1, b2, b3⟩ := ih (p + 1) (by omega) (by omega) M1 (hC.cg (fun a q1 q2 => a3 a (by omega))) a2
      exact ⟨M2, b1, b2, fun a ha => by rw [b3 a ha, a3 a ha]⟩
theorem c_days_l {W : Twn} {B : Blk} {x : Nat} (hx : x < 10) (hWT : WfT W) (hW : WfB (tP W) (tL W) B) (hd : bD B + x ≤ 999) : ∀ n i, i ≤ x → x - i < n → ∀ (M : Mem), ToC M W → MoC M 9 (tP W) (dysN W B i) → ∃ M', gX7_days_42 n (nI x) (nI i) M = some (nI (bD B + x), M') ∧ MoC M' 9 (tP W) (dysN W B x) ∧ ∀ a, a < 9 ∨ 14 ≤ a → M' a = M a := by
  intro n
  induction n with
  | zero => intro p _ h2; omega
  | succ n ih =>
    intro i h1 h2 M hC h
    rw [gX7_days_42]
    by_cases hi : x ≤ i
    · have hi2 : i = x := by omega
      subst hi2
      exact ⟨M, by rw [if_pos (nI_le hi (by omega)), h.1, dysN_D], h, fun a _ => rfl⟩
    · rw [if_neg (nI_ge (by omega) (by omega))]
      obtain ⟨M1, a1, a2, a3⟩ := c_pass_l (o := 9) (by omega) hWT (dysN_W hWT hW i (by omega)) FU 0 (by omega) (by have := hWT.1; unfold FU; omega) M hC h
      have a1' : gX1_passDay 9 191 M = some M1 := by rw [gX1_passDay, i_0]; exact a1
      obtain ⟨M2, b1, b2, b3⟩ := ih (i + 1) (by omega) (by omega) M1 (hC.cg (fun a q1 q2 => a3 a (by omega))) a2
      exact ⟨M2, by rw [a1', obs, nI_1, obs]; exact b1, b2, fun a ha => by rw [b3 a ha, a3 a (by omega)]⟩
theorem m_pass_l {W : Twn} {B : Blk} {x1 x2 : Int32} (hWT : WfT W) (hW : WfB (tP W) (tL W) B) (k35 : Int32 → Int32 → Mem → Option (Int32 × Mem)) : ∀ n p, p ≤ tP W → tP W - p < n → ∀ (M : Mem), ToM M W → MoM (M 201) 0 (tP W) (grw W B p) → ∃ M', gX8_days_42 k35 n x1 x2 (nI p) M = k35 x1 (x2 + 1) M' ∧ MoM (M' 201) 0 (tP W) (day1 W B) ∧ (∀ a, a ≠ 201 → M' a = M a) ∧ ∀ j, 112 ≤ j → M' 201 j = M 201 j := by
  have hpe := hWT.1
  have hlg := hWT.2.2.1
  intro n
  induction n with
  | zero => intro p _ h2; omega
  | succ n ih =>
    intro p h1 h2 M hC h
    rw [gX8_days_42, hC.1]
    by_cases hp : tP W ≤ p
    · have hp2 : p = tP W := by omega
      subst hp2
      have s0 : ldA 1233 (M 201) 0 = some (nI (bD (grw W B (tP W)))) := by rw [i_0, ldA_n _ (by decide) (by decide)]; exact congrArg some h.1
      have s1 : stA 1233 M 201 0 (nI (bD (grw W B (tP W)) + 1)) = some (us M 201 0 (nI (bD (grw W B (tP W)) + 1))) := stA_n (j := 0) _ _ _ (by decide) (by decide)
      have hS := wfS hlg (grw_W hWT hW (tP W) (Nat.le_refl _))
      refine ⟨us M 201 0 (nI (bD (grw W B (tP W)) + 1)), ?_, ⟨?_, ?_, fun q hq => ?_, fun q hq => ?_, fun q hq k hk => ?_, fun j hj t ht => ?_⟩, fun a ha => us_ne _ _ _ ha, fun j hj => by rw [us_app, if_neg (by omega)]⟩
      · rw [if_pos (nI_le hp (by omega)), s0, Option.bind_some, nI_1, s1, Option.bind_some, Option.bind_some]
      · rw [us_app, if_pos ⟨rfl, rfl⟩]; rfl
      · rw [us_app, if_neg (by omega)]; exact h.2.1
      · rw [us_app, if_neg (by omega)]; exact h.2.2.1 q hq
      · rw [us_app, if_neg (by omega)]; exact h.2.2.2.1 q hq
      · rw [us_app, if_neg (by omega)]; exact h.2.2.2.2.1 q hq k hk
      · rw [us_app, if_neg (by omega)]; exact h.2.2.2.2.2 j hj t ht
    · obtain ⟨M1, a1, a2, a3, a4⟩ := m_grow hWT hC (grw_W hWT hW p h1) h (show p < tP W by omega)
      obtain ⟨M2, b1, b2, b3, b4⟩ := ih (p + 1) (by omega) (by omega) M1 (hC.cg (by rw [a3 _ (by decide)]) (by rw [a3 _ (by decide)]) (fun a q1 q2 => a3 a (by omega))) a2
      exact ⟨M2, by rw [if_neg (nI_ge (by omega) (by omega)), a1, Option.bind_some, nI_1, Option.bind_some]; exact b1, b2, fun a ha => by rw [b3 a ha, a3 a ha], fun j hj => by rw [b4 j hj, a4 j hj]⟩
theorem m_days_l {W : Twn} {B : Blk} {x : Nat} (hx : x < 10) (hWT : WfT W) (hW : WfB (tP W) (tL W) B) (hd : bD B + x ≤ 999) : ∀ n i, i ≤ x → x - i < n → ∀ (M : Mem), ToM M W → MoM (M 201) 0 (tP W) (dysN W B i) → ∃ M', gX8_days_35 n (nI x) (nI i) M = some (nI (bD B + x), M') ∧ MoM (M' 201) 0 (tP W) (dysN W B x) ∧ (∀ a, a ≠ 201 → M' a = M a) ∧ ∀ j, 112 ≤ j → M' 201 j = M 201 j := by
  intro n
  induction n with
  | zero => intro p _ h2; omega
  | succ n ih =>
    intro i h1 h2 M hC h
    rw [gX8_days_35]
    by_cases hi : x ≤ i
    · have hi2 : i = x := by omega
      subst hi2
      have s0 : ldA 1233 (M 201) 0 = some (nI (bD (dysN W B i))) := by rw [i_0, ldA_n _ (by decide) (by decide)]; exact congrArg some h.1
      exact ⟨M, by rw [if_pos (nI_le hi (by omega)), s0, Option.bind_some, dysN_D], h, fun a _ => rfl, fun a _ => rfl⟩
    · rw [if_neg (nI_ge (by omega) (by omega))]
      obtain ⟨M1, a1, a2, a3, a4⟩ := m_pass_l (x1 := nI x) (x2 := nI i) hWT (dysN_W hWT hW i (by omega)) (gX8_days_35 n) FU 0 (by omega) (by have := hWT.1; unfold FU; omega) M hC h
      obtain ⟨M2, b1, b2, b3, b4⟩ := ih (i + 1) (by omega) (by omega) M1 (hC.cg (by rw [a3 _ (by decide)]) (by rw [a3 _ (by decide)]) (fun a q1 q2 => a3 a (by omega))) a2
      exact ⟨M2, by rw [i_0, a1, nI_1]; exact b1, b2, fun a ha => by rw [b3 a ha, a3 a ha], fun j hj => by rw [b4 j hj, a4 j hj]⟩
theorem sim_days : Sim_days II := by
  intro MC TC MM TM hI a1
  obtain ⟨rfl, A, hW, hC, hM⟩ := hI
  obtain ⟨σ, hs, ht⟩ := id hC.2.2.1
  have hWB := hW.2.2.1.2.1
  have hpe := hW.2.1.1
  have hlg := hW.2.1.2.2.1
  have hdd := hWB.1
  have e0 : MC 9 4 = nI (bD (mB (aT A))) := ht.2.1.1
  have r0 : ldA 1233 (MM 201) 0 = some (nI (bD (mB (aT A)))) := by rw [i_0, ldA_n _ (by decide) (by decide)]; exact congrArg some hM.2.2.1.2.1.1
  rcases wi3 a1 1 9 (by decide) (by decide) with ⟨x, hx1, hx2, rfl, k3, k4⟩ | ⟨k3, k4⟩
  · replace k3 : gX7_within (nI x) 1 9 = some 1 := k3
    replace k4 : gX8_in (nI x) 1 9 = some 1 := k4
    by_cases hq : bD (mB (aT A)) + x ≤ 999
    · obtain ⟨M1, M2, σ1, g1, g2, hW1, hP1, hT1, hT2, q1, q2⟩ := both_rem hW hC hM
      have hB1 := hT1.2.1
      have hB2 := hT2.2.1
      rw [remT_B] at hB1 hB2
      obtain ⟨N1, a1, a2, a3⟩ := c_days_l (by omega) hW.2.1 hWB hq FU 0 (by omega) (by unfold FU; omega) M1 (hC.2.1.cg (fun a z1 z2 => q1 a (by omega))) hB1
      obtain ⟨N2, b1, b2, b3, b4⟩ := m_days_l (by omega) hW.2.1 hWB hq FU 0 (by omega) (by unfold FU; omega) M2 (hM.2.1.cg (by rw [q2 _ (by decide)]) (by rw [q2 _ (by decide)]) (fun a z1 z2 => q2 a (by omega))) hB2
      have a1' : gX7_days_42 FU (nI x) 0 M1 = some (nI (bD (mB (aT A)) + x), N1) := by rw [i_0]; exact a1
      have b1' : gX8_days_35 FU (nI x) 0 M2 = some (nI (bD (mB (aT A)) + x), N2) := by rw [i_0]; exact b1
      refine ⟨(nI (bD (mB (aT A)) + x), N1), (nI (bD (mB (aT A)) + x), N2), ?_, ?_, rfl, rfl, _, wf_setT hW (wfm_setB hW1 (dysN_W hW.2.1 hWB x hq)), hC.setT hW ⟨σ1, tc_setB hW1.1 hP1 hT1 a2 (fun a ha => a3 a (by omega))⟩ (fun a ha => by dsimp only; rw [a3 a (by omega), q1 a ha]), hM.setT (tm_setB hpe hlg hW1 hT2 b2 b4) (fun a ha => by dsimp only; rw [b3 a ha, q2 a ha])⟩
      · simp only [gX7_days, k3, obs, e0, nI_add, g1, a1']
        rw [if_neg (by decide), if_pos (show _ ≤ (999 : Int32) from nI_le (b := 999) hq (by omega))]
      · simp only [gX8_days, k4, obs, r0, nI_add, g2, b1']
        rw [if_neg (by decide), if_pos (show _ ≤ (999 : Int32) from nI_le (b := 999) hq (by omega))]
    · refine ⟨(-2, MC), (-2, MM), ?_, ?_, rfl, rfl, A, hW, hC, hM⟩
      · simp only [gX7_days, k3, obs, e0, nI_add]
        rw [if_neg (by decide), if_neg (show ¬ _ ≤ (999 : Int32) from nI_ge (a := 999) (by omega) (by omega))]
      · simp only [gX8_days, k4, obs, r0, nI_add]
        rw [if_neg (by decide), if_neg (show ¬ _ ≤ (999 : Int32) from nI_ge (a := 999) (by omega) (by omega))]
  · replace k3 : gX7_within a1 1 9 = some 0 := k3
    replace k4 : gX8_in a1 1 9 = some 0 := k4
    refine ⟨(-1, MC), (-1, MM), ?_, ?_, rfl, rfl, A, hW, hC, hM⟩
    · simp only [gX7_days, k3, obs]; rw [if_pos trivial]
    · simp only [gX8_days, k4, obs]; rw [if_pos trivial]
