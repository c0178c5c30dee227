theorem smN_congr {f g : Nat → Nat} : ∀ n, (∀ i, i < n → f i = g i) → smN f n = smN g n
  | 0, _ => rfl
  | n + 1, h => by rw [smN, smN, smN_congr n (fun i hi => h i (by omega)), h n (by omega)]
theorem smN_mono {f g : Nat → Nat} : ∀ n, (∀ i, i < n → f i ≤ g i) → smN f n ≤ smN g n
  | 0, _ => Nat.le_refl _
  | n + 1, h => by
    have h1 := smN_mono n (fun i hi => h i (by omega))
    have h2 := h n (by omega)
    rw [smN, smN]; omega
theorem smN_add (f g : Nat → Nat) : ∀ n, smN (fun i => f i + g i) n = smN f n + smN g n
  | 0 => rfl
  | n + 1 => by rw [smN, smN, smN, smN_add f g n]; omega
theorem smN_zero {f : Nat → Nat} : ∀ n, (∀ i, i < n → f i = 0) → smN f n = 0
  | 0, _ => rfl
  | n + 1, h => by rw [smN, smN_zero n (fun i hi => h i (by omega)), h n (by omega)]
theorem smN_swap (F : Nat → Nat → Nat) (n : Nat) : ∀ m, smN (fun t => smN (fun i => F t i) n) m = smN (fun i => smN (fun t => F t i) m) n
  | 0 => (smN_zero n (fun _ _ => rfl)).symm
  | m + 1 => by
    rw [smN, smN_swap F n m, ← smN_add]
    exact smN_congr n (fun i _ => rfl)
theorem smN_one {r c : Nat} : ∀ m, smN (fun t => if r = t then c else 0) m = if r < m then c else 0
  | 0 => rfl
  | m + 1 => by
    rw [smN, smN_one m]
    by_cases h : r = m
    · rw [if_pos h, if_neg (by omega), if_pos (by omega)]; omega
    · rw [if_neg h]
      by_cases h2 : r < m
      · rw [if_pos h2, if_pos (by omega), Nat.add_zero]
      · rw [if_neg h2, if_neg (by omega)]
theorem smN_shift (g : Nat → Nat) (s : Nat) : ∀ n, smN (fun i => if s ≤ i then g (i - s) else 0) (s + n) = smN g n
  | 0 => smN_zero s (fun i hi => if_neg (by omega))
  | n + 1 => by
    rw [show s + (n + 1) = s + n + 1 by omega, smN, smN, smN_shift g s n, if_pos (by omega), show s + n - s = n by omega]
theorem smN_rank (P : Nat → Prop) [DecidablePred P] (c : Nat) : ∀ n, smN (fun i => if P i ∧ smN (fun j => if P j then 1 else 0) i < c then 1 else 0) n = min c (smN (fun j => if P j then 1 else 0) n)
  | 0 => by rw [smN, smN]; omega
  | n + 1 => by
    rw [smN, smN, smN_rank P c n]
    by_cases h : P n
    · rw [if_pos h]
      by_cases h2 : smN (fun j => if P j then 1 else 0) n < c
      · rw [if_pos ⟨h, h2⟩]; omega
      · rw [if_neg (fun z => h2 z.2)]; omega
    · rw [if_neg h, if_neg (fun z => h z.1)]; omega
theorem pc_sm (S : Nat) : ∀ n, pc S n = smN (fun j => S / 2 ^ j % 2) n
  | 0 => rfl
  | n + 1 => by rw [pc, smN, pc_sm S n]
theorem mk_set : ∀ n (f : Nat → Prop), ∃ S, S < 2 ^ n ∧ ∀ j, j < n → (bt S j ↔ f j)
  | 0, f => ⟨0, by decide, fun j hj => absurd hj (Nat.not_lt_zero j)⟩
  | n + 1, f => by
    obtain ⟨S, h1, h2⟩ := mk_set n f
    by_cases hf : f n
    · refine ⟨S + 1 * 2 ^ n, by rw [Nat.pow_succ]; omega, fun j hj => ?_⟩
      by_cases hjn : j = n
      · subst hjn
        have e : (S + 1 * 2 ^ j) / 2 ^ j = S / 2 ^ j + 1 := Nat.add_mul_div_right S 1 (Nat.two_pow_pos j)
        have e2 : S / 2 ^ j = 0 := Nat.div_eq_of_lt h1
        exact ⟨fun _ => hf, fun _ => by show (S + 1 * 2 ^ j) / 2 ^ j % 2 = 1; rw [e, e2]⟩
      · have e0 : 1 * 2 ^ n = 2 * 2 ^ (n - j - 1) * 2 ^ j := by
          rw [Nat.one_mul, ← Nat.pow_succ', ← Nat.pow_add]; congr 1; omega
        have e : (S + 1 * 2 ^ n) / 2 ^ j = S / 2 ^ j + 2 * 2 ^ (n - j - 1) := by rw [e0]; exact Nat.add_mul_div_right S _ (Nat.two_pow_pos j)
        rw [← h2 j (by omega)]
        show (S + 1 * 2 ^ n) / 2 ^ j % 2 = 1 ↔ S / 2 ^ j % 2 = 1
        rw [e]; omega
    · refine ⟨S, by rw [Nat.pow_succ]; omega, fun j hj => ?_⟩
      by_cases hjn : j = n
      · subst hjn
        have e2 : S / 2 ^ j = 0 := Nat.div_eq_of_lt h1
        exact ⟨fun z => absurd z (by show ¬ S / 2 ^ j % 2 = 1; rw [e2]; decide), fun z => absurd z hf⟩
      · exact h2 j (by omega)
theorem mk_vec {lo hi : Nat → Nat} : ∀ m k, (∀ t, t < m → lo t ≤ hi t) → smN lo m ≤ k → k ≤ smN hi m → ∃ a : Nat → Nat, (∀ t, t < m → lo t ≤ a t ∧ a t ≤ hi t) ∧ smN a m = k
  | 0, k, _, _, h3 => ⟨fun _ => 0, fun t ht => absurd ht (Nat.not_lt_zero t), by have : k ≤ 0 := h3; show 0 = k; omega⟩
  | m + 1, k, h1, h2, h3 => by
    rw [smN] at h2 h3
    have hm := h1 m (by omega)
    have hle : smN lo m ≤ smN hi m := smN_mono m (fun t ht => h1 t (by omega))
    obtain ⟨a, a1, a2⟩ := mk_vec (lo := lo) (hi := hi) m (k - max (lo m) (k - smN hi m)) (fun t ht => h1 t (by omega)) (by omega) (by omega)
    refine ⟨fun t => if t = m then max (lo m) (k - smN hi m) else a t, fun t ht => ?_, ?_⟩
    · by_cases q : t = m
      · subst q; dsimp only; rw [if_pos rfl]; omega
      · dsimp only; rw [if_neg q]; exact a1 t (by omega)
    · rw [smN, if_pos rfl, smN_congr (g := a) m (fun i hi => if_neg (by omega)), a2]; omega
section LEAST
variable (row : Nat → Nat) (t s b e : Nat)
def cA (x : Nat) : Nat := smN (fun i => if b ≤ i ∧ row i = x then 1 else 0) e
def cB (x : Nat) : Nat := smN (fun i => if b ≤ i ∧ s ≤ i ∧ row i = x then 1 else 0) e
def rS (S i : Nat) : Nat := if s ≤ i ∧ bt S (i - s) then t else row i
def cS (S x : Nat) : Nat := smN (fun i => if b ≤ i ∧ rS row t s S i = x then 1 else 0) e
def aV (S x : Nat) : Nat := smN (fun i => if x ≠ t ∧ b ≤ i ∧ s ≤ i ∧ bt S (i - s) ∧ row i = x then 1 else 0) e
def hiV (x : Nat) : Nat := if x = t then 0 else cB row s b e x
def loV (k x : Nat) : Nat := if x = t then 0 else cA row b e x + 1 - (cA row b e t + k)
abbrev sufP (k : Nat) : Prop := (∀ x, x < 10 → loV row t b e k x ≤ hiV row t s b e x) ∧ smN (loV row t b e k) 10 ≤ k ∧ k ≤ smN (hiV row t s b e) 10
abbrev mostP (S : Nat) : Prop := ∀ x, x < 10 → x = t ∨ cS row t s b e S x < cS row t s b e S t
end LEAST
section LEAST2
variable {row : Nat → Nat} {t s b e : Nat}
theorem le_E1 (S : Nat) {x : Nat} (hx : x ≠ t) : cS row t s b e S x + aV row t s b e S x = cA row b e x := by
  unfold cS aV cA
  rw [← smN_add]
  refine smN_congr e (fun i _ => ?_)
  unfold rS
  by_cases hb : b ≤ i
  · by_cases hc : s ≤ i ∧ bt S (i - s)
    · rw [if_pos hc]
      by_cases hr : row i = x
      · rw [if_neg (fun z => hx z.2.symm), if_pos ⟨hx, hb, hc.1, hc.2, hr⟩, if_pos ⟨hb, hr⟩]
      · rw [if_neg (fun z => hx z.2.symm), if_neg (fun z => hr z.2.2.2.2), if_neg (fun z => hr z.2)]
    · rw [if_neg hc, if_neg (c := x ≠ t ∧ b ≤ i ∧ s ≤ i ∧ bt S (i - s) ∧ row i = x) (fun z => hc ⟨z.2.2.1, z.2.2.2.1⟩)]; rfl
  · rw [if_neg (fun z => hb z.1), if_neg (fun z => hb z.2.1), if_neg (fun z => hb z.1)]
theorem le_sum (hrow : ∀ i, row i < 10) (S : Nat) : smN (aV row t s b e S) 10 = smN (fun i => if b ≤ i ∧ s ≤ i ∧ bt S (i - s) ∧ row i ≠ t then 1 else 0) e := by
  have h1 : smN (aV row t s b e S) 10 = smN (fun x => smN (fun i => if x ≠ t ∧ b ≤ i ∧ s ≤ i ∧ bt S (i - s) ∧ row i = x then 1 else 0) e) 10 := rfl
  rw [h1, smN_swap]
  refine smN_congr e (fun i _ => ?_)
  by_cases hc : b ≤ i ∧ s ≤ i ∧ bt S (i - s) ∧ row i ≠ t
  · rw [if_pos hc]
    have h2 := smN_one (r := row i) (c := 1) 10
    rw [if_pos (hrow i)] at h2
    refine Eq.trans (smN_congr 10 (fun x _ => ?_)) h2
    by_cases hr : row i = x
    · rw [if_pos hr, if_pos ⟨by rw [← hr]; exact hc.2.2.2, hc.1, hc.2.1, hc.2.2.1, hr⟩]
    · rw [if_neg hr, if_neg (fun z => hr z.2.2.2.2)]
  · rw [if_neg hc]
    exact smN_zero 10 (fun x _ => if_neg (fun z => hc ⟨z.2.1, z.2.2.1, z.2.2.2.1, by rw [z.2.2.2.2]; exact z.1⟩))
theorem le_E2 (hrow : ∀ i, row i < 10) (S : Nat) : cS row t s b e S t = cA row b e t + smN (aV row t s b e S) 10 := by
  rw [le_sum hrow]
  unfold cS cA
  rw [← smN_add]
  refine smN_congr e (fun i _ => ?_)
  unfold rS
  by_cases hb : b ≤ i
  · by_cases hc : s ≤ i ∧ bt S (i - s)
    · rw [if_pos hc, if_pos ⟨hb, rfl⟩]
      by_cases hr : row i = t
      · rw [if_pos ⟨hb, hr⟩, if_neg (fun z => z.2.2.2 hr)]
      · rw [if_neg (fun z => hr z.2), if_pos ⟨hb, hc.1, hc.2, hr⟩]
    · rw [if_neg hc, if_neg (c := b ≤ i ∧ s ≤ i ∧ bt S (i - s) ∧ row i ≠ t) (fun z => hc ⟨z.2.1, z.2.2.1⟩)]; rfl
  · rw [if_neg (fun z => hb z.1), if_neg (fun z => hb z.1), if_neg (fun z => hb z.1)]
theorem le_hi (S : Nat) (x : Nat) : aV row t s b e S x ≤ hiV row t s b e x := by
  unfold aV hiV cB
  by_cases hx : x = t
  · rw [if_pos hx, smN_zero e (fun i _ => if_neg (fun z => z.1 hx))]; exact Nat.le_refl 0
  · rw [if_neg hx]
    refine smN_mono e (fun i _ => ?_)
    by_cases hc : x ≠ t ∧ b ≤ i ∧ s ≤ i ∧ bt S (i - s) ∧ row i = x
    · rw [if_pos hc, if_pos ⟨hc.2.1, hc.2.2.1, hc.2.2.2.2⟩]; exact Nat.le_refl 1
    · rw [if_neg hc]; exact Nat.zero_le _
theorem le_bits (n S : Nat) : smN (fun i => if s ≤ i ∧ bt S (i - s) then 1 else 0) (s + n) = pc S n := by
  rw [pc_sm, ← smN_shift (fun j => S / 2 ^ j % 2) s n]
  refine smN_congr _ (fun i _ => ?_)
  by_cases h : s ≤ i
  · rw [if_pos h]
    by_cases hb : bt S (i - s)
    · rw [if_pos ⟨h, hb⟩]; exact hb.symm
    · have : ¬ S / 2 ^ (i - s) % 2 = 1 := hb
      rw [if_neg (fun z => hb z.2)]; omega
  · rw [if_neg h, if_neg (fun z => h z.1)]
theorem le_fwd (hrow : ∀ i, row i < 10) {n S : Nat} (he : e = s + n) (h : mostP row t s b e S) : ∃ k, k ≤ pc S n ∧ sufP row t s b e k := by
  have E2 := le_E2 (t := t) (s := s) (b := b) (e := e) hrow S
  have hlo : ∀ x, x < 10 → loV row t b e (smN (aV row t s b e S) 10) x ≤ aV row t s b e S x := by
    intro x hx
    unfold loV
    by_cases hxt : x = t
    · rw [if_pos hxt]; exact Nat.zero_le _
    · have E1 := le_E1 (row := row) (t := t) (s := s) (b := b) (e := e) S hxt
      have := (h x hx).resolve_left hxt
      rw [if_neg hxt]; omega
  refine ⟨smN (aV row t s b e S) 10, ?_, fun x hx => Nat.le_trans (hlo x hx) (le_hi S x), smN_mono 10 hlo, smN_mono 10 (fun x _ => le_hi S x)⟩
  rw [le_sum hrow, ← le_bits (s := s) n S, ← he]
  refine smN_mono e (fun i _ => ?_)
  by_cases hc : b ≤ i ∧ s ≤ i ∧ bt S (i - s) ∧ row i ≠ t
  · rw [if_pos hc, if_pos ⟨hc.2.1, hc.2.2.1⟩]; exact Nat.le_refl 1
  · rw [if_neg hc]; exact Nat.zero_le _
theorem le_bwd (hrow : ∀ i, row i < 10) {n k : Nat} (he : e = s + n) (h : sufP row t s b e k) : ∃ S, S < 2 ^ n ∧ mostP row t s b e S ∧ pc S n = k := by
  obtain ⟨h1, h2, h3⟩ := h
  obtain ⟨a, a1, a2⟩ := mk_vec 10 k h1 h2 h3
  obtain ⟨S, s1, s2⟩ := mk_set n (fun j => b ≤ s + j ∧ row (s + j) ≠ t ∧ smN (fun i => if b ≤ i ∧ s ≤ i ∧ row i = row (s + j) then 1 else 0) (s + j) < a (row (s + j)))
  have hS : ∀ i, i < e → s ≤ i → (bt S (i - s) ↔ (b ≤ i ∧ row i ≠ t ∧ smN (fun j => if b ≤ j ∧ s ≤ j ∧ row j = row i then 1 else 0) i < a (row i))) := by
    intro i hi hsi
    have := s2 (i - s) (by omega)
    rwa [show s + (i - s) = i by omega] at this
  have hav : ∀ x, x < 10 → aV row t s b e S x = a x := by
    intro x hx
    have ha := a1 x hx
    by_cases hxt : x = t
    · unfold hiV at ha
      rw [if_pos hxt] at ha
      unfold aV
      rw [smN_zero e (fun i _ => if_neg (fun z => z.1 hxt))]; omega
    · unfold hiV at ha
      rw [if_neg hxt] at ha
      have hr := smN_rank (fun i => b ≤ i ∧ s ≤ i ∧ row i = x) (a x) e
      have : min (a x) (cB row s b e x) = a x := by omega
      unfold cB at this
      rw [← this, ← hr]
      unfold aV
      refine smN_congr e (fun i hi => ?_)
      by_cases hc : b ≤ i ∧ s ≤ i ∧ row i = x
      · have hq := hS i hi hc.2.1
        rw [hc.2.2] at hq
        by_cases hk : smN (fun j => if b ≤ j ∧ s ≤ j ∧ row j = x then 1 else 0) i < a x
        · rw [if_pos ⟨hxt, hc.1, hc.2.1, hq.mpr ⟨hc.1, hxt, hk⟩, hc.2.2⟩, if_pos ⟨hc, hk⟩]
        · rw [if_neg (fun z => hk (hq.mp z.2.2.2.1).2.2), if_neg (fun z => hk z.2)]
      · rw [if_neg (fun z => hc ⟨z.2.1, z.2.2.1, z.2.2.2.2⟩), if_neg (fun z => hc z.1)]
  have hsum : smN (aV row t s b e S) 10 = k := by rw [smN_congr (g := a) 10 hav]; exact a2
  have E2 := le_E2 (t := t) (s := s) (b := b) (e := e) hrow S
  rw [hsum] at E2
  refine ⟨S, s1, fun x hx => ?_, ?_⟩
  · by_cases hxt : x = t
    · exact Or.inl hxt
    · right
      have E1 := le_E1 (row := row) (t := t) (s := s) (b := b) (e := e) S hxt
      have ha := (a1 x hx).1
      rw [hav x hx] at E1
      unfold loV at ha
      rw [if_neg hxt] at ha
      omega
  · rw [← le_bits (s := s) n S, ← he]
    refine Eq.trans ?_ ((le_sum hrow S).symm.trans hsum)
    refine smN_congr e (fun i hi => ?_)
    by_cases hc : s ≤ i ∧ bt S (i - s)
    · have hq := (hS i hi hc.1).mp hc.2
      rw [if_pos hc, if_pos ⟨hq.1, hc.1, hc.2, hq.2.1⟩]
    · rw [if_neg hc, if_neg (fun z => hc ⟨z.2.1, z.2.2.1⟩)]
end LEAST2
def wls (ok : Nat → Prop) [DecidablePred ok] : Nat → Nat
  | 0 => 0
  | S + 1 => if ok S ∧ (wls ok S = 0 ∨ pc S 10 < wls ok S - 1) then pc S 10 + 1 else wls ok S
theorem wls_le (ok : Nat → Prop) [DecidablePred ok] : ∀ N, wls ok N ≤ 11
  | 0 => Nat.zero_le _
  | S + 1 => by
    have h1 := wls_le ok S
    have h2 := pc_le S 10
    rw [wls]; split <;> omega
theorem wls_a (ok : Nat → Prop) [DecidablePred ok] {S : Nat} (hS : ok S) : ∀ N, S < N → wls ok N ≠ 0 ∧ wls ok N ≤ pc S 10 + 1
  | 0, h => absurd h (Nat.not_lt_zero S)
  | N + 1, h => by
    rw [wls]
    by_cases q : S = N
    · subst q
      by_cases c : ok S ∧ (wls ok S = 0 ∨ pc S 10 < wls ok S - 1)
      · rw [if_pos c]; omega
      · rw [if_neg c]
        have : ¬ (wls ok S = 0 ∨ pc S 10 < wls ok S - 1) := fun z => c ⟨hS, z⟩
        omega
    · have := wls_a ok hS N (by omega)
      by_cases c : ok N ∧ (wls ok N = 0 ∨ pc N 10 < wls ok N - 1)
      · rw [if_pos c]; omega
      · rw [if_neg c]; exact this
theorem wls_b (ok : Nat → Prop) [DecidablePred ok] : ∀ N, wls ok N ≠ 0 → ∃ S, S < N ∧ ok S ∧ wls ok N = pc S 10 + 1
  | 0, h => absurd rfl h
  | N + 1, h => by
    rw [wls] at h ⊢
    by_cases c : ok N ∧ (wls ok N = 0 ∨ pc N 10 < wls ok N - 1)
    · rw [if_pos c]; exact ⟨N, by omega, c.1, rfl⟩
    · rw [if_neg c] at h ⊢
      obtain ⟨S, q1, q2, q3⟩ := wls_b ok N h
      exact ⟨S, by omega, q2, q3⟩
theorem pc10b : ∀ n, n < 9 → ∀ S, S < 256 → S < 2 ^ n → pc S 10 = pc S n := by decide +kernel
theorem pc_n (S : Nat) : ∀ n, pc S n ≤ n := pc_le S
/-- the first that suffices is the least of the sets -/
theorem least_eq {row : Nat → Nat} {t s b e n : Nat} (hrow : ∀ i, row i < 10) (he : e = s + n) (hn : n < 9) {r : Nat} (hr : (r = 0 ∧ ∀ k, k ≤ n → ¬ sufP row t s b e k) ∨ (∃ k, r = k + 1 ∧ k ≤ n ∧ sufP row t s b e k ∧ ∀ j, j < k → ¬ sufP row t s b e j)) : wls (fun S => mostP row t s b e S) (2 ^ n) = r := by
  have h2 : 2 ^ n ≤ 256 := Nat.pow_le_pow_right (by decide) (show n ≤ 8 by omega)
  rcases hr with ⟨r0, h⟩ | ⟨k, rk, hk, h, hj⟩
  · rw [r0]
    rcases Nat.eq_zero_or_pos (wls (fun S => mostP row t s b e S) (2 ^ n)) with q | q
    · exact q
    · obtain ⟨S, q1, q2, q3⟩ := wls_b (fun S => mostP row t s b e S) (2 ^ n) (by omega)
      obtain ⟨k, k1, k2⟩ := le_fwd hrow he q2
      have := pc_le S n
      exact absurd k2 (h k (by omega))
  · obtain ⟨S, s1, s2, s3⟩ := le_bwd hrow he h
    have hp := pc10b n hn S (by omega) s1
    obtain ⟨w1, w2⟩ := wls_a (fun S => mostP row t s b e S) s2 (2 ^ n) s1
    obtain ⟨S', q1, q2, q3⟩ := wls_b (fun S => mostP row t s b e S) (2 ^ n) w1
    obtain ⟨k', k1, k2⟩ := le_fwd hrow he q2
    have hp' := pc10b n hn S' (by omega) q1
    rcases Nat.lt_or_ge k' k with z | z
    · exact absurd k2 (hj k' z)
    · omega
