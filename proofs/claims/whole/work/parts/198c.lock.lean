theorem c_fill_l {o n0 : Nat} {x : Int32} (hn : n0 < 1000) : ∀ n i, i ≤ n0 → n0 - i < n → ∀ (M : Mem), ∃ M', gJ7_fill_53178_5 o n0 n x (nI i) (nI n0) M = some M' ∧ (∀ a, a ≠ o → M' a = M a) ∧ (∀ j, (j < i ∨ n0 ≤ j) → M' o j = M o j) ∧ ∀ j, i ≤ j → j < n0 → M' o j = x := by
  intro n
  induction n with
  | zero => intro i _ h2; omega
  | succ n ih =>
    intro i h1 h2 M
    rw [gJ7_fill_53178_5]
    by_cases hi : n0 ≤ i
    · exact ⟨M, by rw [if_pos (nI_le hi (by omega))], fun a _ => rfl, fun j _ => rfl, fun j q1 q2 => absurd q2 (by omega)⟩
    · rw [if_neg (nI_ge (by omega) (by omega)), stA_n _ _ _ (by omega) (by omega), Option.bind_some, nI_1, Option.bind_some]
      obtain ⟨M', e1, e2, e3, e4⟩ := ih (i + 1) (by omega) (by omega) (us M o i x)
      refine ⟨M', e1, fun a ha => by rw [e2 a ha, us_ne _ _ _ ha], fun j hj => by rw [e3 j (by omega), us_app, if_neg (by omega)], fun j q1 q2 => ?_⟩
      by_cases hj : j = i
      · rw [e3 j (by omega), us_app, if_pos ⟨rfl, hj⟩]
      · exact e4 j (by omega) q2
theorem c_fill {o n0 : Nat} {x : Int32} (hn : n0 < 1000) (M : Mem) : ∃ M', gJ7_fill_53178 o n0 x M = some M' ∧ (∀ a, a ≠ o → M' a = M a) ∧ (∀ j, n0 ≤ j → M' o j = M o j) ∧ ∀ j, j < n0 → M' o j = x := by
  obtain ⟨M', e1, e2, e3, e4⟩ := c_fill_l (o := o) (x := x) hn FU 0 (by omega) (by unfold FU; omega) M
  refine ⟨M', ?_, e2, fun j hj => e3 j (by omega), fun j hj => e4 j (by omega) hj⟩
  rw [gJ7_fill_53178, obs, i_0]
  exact e1
abbrev fitP (B : Blk) (x : Nat × (Nat → Nat)) (p f : Nat) : Prop := f + x.1 ≤ bS B p ∧ ∀ k, k < x.1 → bH B p (f + k) = x.2 k
theorem c_fit_l {M : Mem} {pe lg : Nat} {B : Blk} {x : Nat × (Nat → Nat)} (hpe : pe ≤ 5) (hlg : lg ≤ 12) (hW : WfB pe lg B) (h : MoC M 9 pe B) (hx : x.1 ≤ 4) (hx2 : ∀ i, i < x.1 → x.2 i < 10) (hS : SeC M x) {p f : Nat} (hp : p < pe) (hf : f + x.1 ≤ bS B p) : ∀ n i, i ≤ x.1 → x.1 - i < n → (∀ k, k < i → bH B p (f + k) = x.2 k) → gX0_fitAt_20 9 n (nI p) (nI f) (nI i) M = some (if fitP B x p f then 1 else 0) := by
  have hs := hW.2.2.1 p hp
  intro n
  induction n with
  | zero => intro i _ h2; omega
  | succ n ih =>
    intro i h1 h2 hk
    rw [gX0_fitAt_20, hS.1]
    by_cases hi : x.1 ≤ i
    · rw [if_pos (nI_le hi (by omega)), if_pos (show fitP B x p f from ⟨hf, fun k q => hk k (by omega)⟩)]
    · have hh := hW.2.2.2.2.1 p hp (f + i) (by omega)
      have hxi := hx2 i (by omega)
      rw [if_neg (nI_ge (by omega) (by omega)), nI_add, c_layer (o := 9) hpe hlg hW h hp (by omega), Option.bind_some, ldA_n _ (by omega) (by decide), hS.2 i (by omega), Option.bind_some]
      by_cases hq : bH B p (f + i) = x.2 i
      · rw [if_pos (congrArg nI hq), nI_1, Option.bind_some]
        exact ih (i + 1) (by omega) (by omega) (fun k q => by
          by_cases hki : k = i
          · rw [hki]; exact hq
          · exact hk k (by omega))
      · rw [if_neg (fun q => hq (nI_inj (by omega) (by omega) q)), if_neg (fun q => hq (q.2 i (by omega)))]
theorem c_fit {M : Mem} {pe lg : Nat} {B : Blk} {x : Nat × (Nat → Nat)} (hpe : pe ≤ 5) (hlg : lg ≤ 12) (hW : WfB pe lg B) (h : MoC M 9 pe B) (hx : x.1 ≤ 4) (hx2 : ∀ i, i < x.1 → x.2 i < 10) (hS : SeC M x) {p f : Nat} (hp : p < pe) (hf : f ≤ 13) : gX0_fitAt 9 (nI p) (nI f) M = some (if fitP B x p f then 1 else 0) := by
  have hs := hW.2.2.1 p hp
  have g : ldA 5 (M (9 + 1)) (nI p) = some (nI (bS B p)) := c_size (o := 9) hpe h hp
  rw [gX0_fitAt, g, Option.bind_some, hS.1, nI_add]
  by_cases hq : f + x.1 ≤ bS B p
  · rw [if_pos (nI_le hq (by omega)), i_0]
    exact c_fit_l hpe hlg hW h hx hx2 hS hp hq FU 0 (by omega) (by unfold FU; omega) (fun k q => absurd q (Nat.not_lt_zero k))
  · rw [if_neg (nI_ge (by omega) (by omega)), if_neg (fun q => hq q.1)]
theorem m_fit_l {M : Mem} {pe lg : Nat} {B : Blk} {x : Nat × (Nat → Nat)} (hpe : pe ≤ 5) (hlg : lg ≤ 12) (hW : WfB pe lg B) (h : MoM (M 201) 0 pe B) (hx : x.1 ≤ 4) (hx2 : ∀ i, i < x.1 → x.2 i < 10) (hS : SeM M x) {p f : Nat} (hp : p < pe) (hf : f + x.1 ≤ bS B p) : ∀ n i, i ≤ x.1 → x.1 - i < n → (∀ k, k < i → bH B p (f + k) = x.2 k) → gX8_isLock_26 (n + 1) (nI p) (nI f) 1 (nI i) M = some (if fitP B x p f then 1 else 0) := by
  have hs := hW.2.2.1 p hp
  intro n
  induction n with
  | zero => intro i _ h2; omega
  | succ n ih =>
    intro i h1 h2 hk
    rw [gX8_isLock_26, hS.1]
    by_cases hi : x.1 ≤ i
    · rw [if_pos (nI_le hi (by omega)), if_pos (show fitP B x p f from ⟨hf, fun k q => hk k (by omega)⟩), gX8_isLock_70, zr_1, Option.bind_some]
    · have hh := hW.2.2.2.2.1 p hp (f + i) (by omega)
      have hxi := hx2 i (by omega)
      rw [if_neg (nI_ge (by omega) (by omega)), if_neg (by decide), nI_add, m_layer hpe hlg hW h hp (by omega), Option.bind_some, ldA_n _ (by omega) (by decide), hS.2 i (by omega), Option.bind_some]
      by_cases hq : bH B p (f + i) = x.2 i
      · rw [if_pos (congrArg nI hq), gX8_isLock_63, nI_1, Option.bind_some]
        exact ih (i + 1) (by omega) (by omega) (fun k q => by
          by_cases hki : k = i
          · rw [hki]; exact hq
          · exact hk k (by omega))
      · rw [if_neg (fun q => hq (nI_inj (by omega) (by omega) q)), if_neg (fun q => hq (q.2 i (by omega))), gX8_isLock_63, nI_1, Option.bind_some, gX8_isLock_26, if_pos (show (0 : Int32) = 0 from rfl), gX8_isLock_70, zr_0, Option.bind_some, ite_self]
theorem m_fit {M : Mem} {pe lg : Nat} {B : Blk} {x : Nat × (Nat → Nat)} (hpe : pe ≤ 5) (hlg : lg ≤ 12) (hW : WfB pe lg B) (h : MoM (M 201) 0 pe B) (hx : x.1 ≤ 4) (hx2 : ∀ i, i < x.1 → x.2 i < 10) (hS : SeM M x) {p f : Nat} (hp : p < pe) (hf : f ≤ 13) : gX8_isLock (nI p) (nI f) M = some (if fitP B x p f then 1 else 0) := by
  have hs := hW.2.2.1 p hp
  rw [gX8_isLock, m_size hpe h hp, Option.bind_some, hS.1, nI_add]
  by_cases hq : f + x.1 ≤ bS B p
  · rw [if_neg (nI_nlt hq (by omega)), gX8_isLock_22, i_0]
    exact m_fit_l hpe hlg hW h hx hx2 hS hp hq 4095 0 (by omega) (by omega) (fun k q => absurd q (Nat.not_lt_zero k))
  · rw [if_pos (nI_lt (by omega) (by omega)), if_neg (fun q => hq q.1), gX8_isLock_22, show FU = 4095 + 1 from rfl, gX8_isLock_26, if_pos (show (0 : Int32) = 0 from rfl), gX8_isLock_70, zr_0, Option.bind_some, ite_self]
def whi (g : Nat → Prop) [DecidablePred g] (p : Nat) (w : Int32) : Nat → Int32
  | 0 => w
  | f + 1 => if g f then whi g p w f ||| (1 <<< (nI p &&& 31)) else whi g p w f
def whO (B : Blk) (x : Nat × (Nat → Nat)) : Nat → Int32
  | 0 => 0
  | p + 1 => whi (fitP B x p) p (whO B x p) (bS B p + 1)
theorem c_wh17 {M : Mem} {pe lg : Nat} {B : Blk} {x : Nat × (Nat → Nat)} (hpe : pe ≤ 5) (hlg : lg ≤ 12) (hW : WfB pe lg B) (h : MoC M 9 pe B) (hx : x.1 ≤ 4) (hx2 : ∀ i, i < x.1 → x.2 i < 10) (hS : SeC M x) {p : Nat} (hp : p < pe) (k4 : Int32 → Int32 → Mem → Option Int32) (w : Int32) : ∀ n i, i ≤ bS B p + 1 → bS B p + 1 - i < n → gX7_whoseLock_17 k4 n (whi (fitP B x p) p w i) (nI p) (nI i) M = k4 (whi (fitP B x p) p w (bS B p + 1)) (nI (p + 1)) M := by
  have hs := hW.2.2.1 p hp
  have g : ldA 5 (M 10) (nI p) = some (nI (bS B p)) := c_size (o := 9) hpe h hp
  intro n
  induction n with
  | zero => intro i _ h2; omega
  | succ n ih =>
    intro i h1 h2
    rw [gX7_whoseLock_17, g, Option.bind_some]
    by_cases hi : bS B p < i
    · rw [if_pos (nI_lt hi (by omega)), nI_1, Option.bind_some, show i = bS B p + 1 by omega]
    · rw [if_neg (nI_nlt (by omega) (by omega)), c_fit hpe hlg hW h hx hx2 hS hp (by omega), Option.bind_some]
      have e := ih (i + 1) (by omega) (by omega)
      rw [whi] at e
      by_cases hq : fitP B x p i
      · rw [if_pos hq] at e ⊢
        rw [if_neg (by decide), Option.bind_some, gX7_whoseLock_58, nI_1, Option.bind_some]
        exact e
      · rw [if_neg hq] at e ⊢
        rw [if_pos rfl, gX7_whoseLock_58, nI_1, Option.bind_some]
        exact e
theorem c_wh {M : Mem} {pe lg : Nat} {B : Blk} {x : Nat × (Nat → Nat)} (hpe : pe ≤ 5) (hlg : lg ≤ 12) (hW : WfB pe lg B) (h0 : M 191 3 = nI pe) (h : MoC M 9 pe B) (hx : x.1 ≤ 4) (hx2 : ∀ i, i < x.1 → x.2 i < 10) (hS : SeC M x) : ∀ n i, i ≤ pe → pe - i < n → gX7_whoseLock_4 n (whO B x i) (nI i) M = some (whO B x pe) := by
  intro n
  induction n with
  | zero => intro i _ h2; omega
  | succ n ih =>
    intro i h1 h2
    rw [gX7_whoseLock_4, h0]
    by_cases hi : pe ≤ i
    · rw [if_pos (nI_le hi (by omega)), show i = pe by omega]
    · have hs := hW.2.2.1 i (by omega)
      rw [if_neg (nI_ge (by omega) (by omega)), i_0]
      exact (c_wh17 hpe hlg hW h hx hx2 hS (show i < pe by omega) (gX7_whoseLock_4 n) (whO B x i) FU 0 (by omega) (by unfold FU; omega)).trans (ih (i + 1) (by omega) (by omega))
def nxi (g : Nat → Prop) [DecidablePred g] (h : Nat → Nat) (m s : Nat) (c : Nat → Nat) : Nat → Nat → Nat
  | 0 => c
  | f + 1 => if g f ∧ f + m < s then (fun t => if t = h (f + m) then nxi g h m s c f t + 1 else nxi g h m s c f t) else nxi g h m s c f
def nxO (B : Blk) (x : Nat × (Nat → Nat)) : Nat → Nat → Nat
  | 0 => fun _ => 0
  | p + 1 => nxi (fitP B x p) (bH B p) x.1 (bS B p) (nxO B x p) (bS B p + 1)
theorem nxi_le (g : Nat → Prop) [DecidablePred g] (h : Nat → Nat) (m s : Nat) (c : Nat → Nat) (t : Nat) : ∀ f, nxi g h m s c f t ≤ c t + f
  | 0 => Nat.le_refl _
  | f + 1 => by
    have := nxi_le g h m s c t f
    unfold nxi
    by_cases q : g f ∧ f + m < s
    · rw [if_pos q]; split <;> omega
    · rw [if_neg q]; omega
theorem nxi_stop (g : Nat → Prop) [DecidablePred g] (h : Nat → Nat) (m s : Nat) (c : Nat → Nat) {f0 : Nat} (hs : s ≤ f0 + m) : ∀ f, f0 ≤ f → nxi g h m s c f = nxi g h m s c f0
  | 0, q => by rw [show f0 = 0 by omega]
  | f + 1, q => by
    by_cases hq : f0 = f + 1
    · rw [hq]
    · rw [nxi, if_neg (fun z => by omega), nxi_stop g h m s c hs f (by omega)]
theorem nxO_le {B : Blk} {x : Nat × (Nat → Nat)} {pe lg : Nat} (hlg : lg ≤ 12) (hW : WfB pe lg B) (t : Nat) : ∀ p, p ≤ pe → nxO B x p t ≤ 13 * p
  | 0, _ => Nat.le_refl _
  | p + 1, hp => by
    have h1 := nxO_le (x := x) hlg hW t p (by omega)
    have h2 := nxi_le (fitP B x p) (bH B p) x.1 (bS B p) (nxO B x p) t (bS B p + 1)
    have h3 := hW.2.2.1 p (by omega)
    rw [nxO]; omega
theorem c_nx36 {pe lg : Nat} {B : Blk} {x : Nat × (Nat → Nat)} (hpe : pe ≤ 5) (hlg : lg ≤ 12) (hW : WfB pe lg B) (hx : x.1 ≤ 4) (hx2 : ∀ i, i < x.1 → x.2 i < 10) {p : Nat} (hp : p < pe) (k10 : Int32 → Mem → Option (Int32 × Mem)) (c : Nat → Nat) : ∀ n i, i ≤ bS B p → bS B p + 1 - i < n → ∀ (M : Mem), MoC M 9 pe B → SeC M x → (∀ t, t < 10 → M 195 t = nI (nxi (fitP B x p) (bH B p) x.1 (bS B p) c i t)) → ∃ M', gX7_nextInLock_36 k10 n (nI p) (nI (bS B p)) (nI i) M = k10 (nI (p + 1)) M' ∧ (∀ t, t < 10 → M' 195 t = nI (nxi (fitP B x p) (bH B p) x.1 (bS B p) c (bS B p + 1) t)) ∧ ∀ a, a ≠ 195 → M' a = M a := by
  have hs := hW.2.2.1 p hp
  intro n
  induction n with
  | zero => intro i _ h2; omega
  | succ n ih =>
    intro i h1 h2 M h hS hc
    rw [gX7_nextInLock_36, hS.1, nI_add]
    by_cases hi : bS B p ≤ i + x.1
    · refine ⟨M, ?_, fun t ht => ?_, fun a _ => rfl⟩
      · rw [if_pos (nI_le hi (by omega)), nI_1, Option.bind_some]
      · rw [nxi_stop (fitP B x p) (bH B p) x.1 (bS B p) c hi (bS B p + 1) (by omega)]; exact hc t ht
    · rw [if_neg (nI_ge (by omega) (by omega)), c_fit hpe hlg hW h hx hx2 hS hp (by omega), Option.bind_some]
      by_cases hq : fitP B x p i
      · have hh := hW.2.2.2.2.1 p hp (i + x.1) (by omega)
        obtain ⟨M', e1, e2, e3⟩ := ih (i + 1) (by omega) (by omega) (us M 195 (bH B p (i + x.1)) (nI (nxi (fitP B x p) (bH B p) x.1 (bS B p) c i (bH B p (i + x.1)) + 1))) (h.cg (fun a q1 q2 => us_ne _ _ _ (by omega))) (hS.cg (by rw [us_ne _ _ _ (by decide)]) (us_ne _ _ _ (by decide))) (fun t ht => by
          rw [nxi, if_pos ⟨hq, by omega⟩, us_app]
          by_cases htq : t = bH B p (i + x.1)
          · rw [if_pos ⟨rfl, htq⟩, if_pos htq, htq]
          · rw [if_neg (fun z => htq z.2), if_neg htq]; exact hc t ht)
        refine ⟨M', ?_, e2, fun a ha => by rw [e3 a ha, us_ne _ _ _ ha]⟩
        rw [if_pos hq, if_neg (by decide), c_layer (o := 9) hpe hlg hW h hp (by omega), Option.bind_some, ldA_n _ hh (by decide), hc _ hh, Option.bind_some, nI_1, stA_n _ _ _ hh (by decide), Option.bind_some, gX7_nextInLock_97, nI_1, Option.bind_some]
        exact e1
      · obtain ⟨M', e1, e2, e3⟩ := ih (i + 1) (by omega) (by omega) M h hS (fun t ht => by rw [nxi, if_neg (fun z => hq z.1)]; exact hc t ht)
        refine ⟨M', ?_, e2, e3⟩
        rw [if_neg hq, if_pos rfl, gX7_nextInLock_97, nI_1, Option.bind_some]
        exact e1
theorem c_nx10 {pe lg : Nat} {B : Blk} {x : Nat × (Nat → Nat)} (hpe : pe ≤ 5) (hlg : lg ≤ 12) (hW : WfB pe lg B) (hx : x.1 ≤ 4) (hx2 : ∀ i, i < x.1 → x.2 i < 10) : ∀ n i, i ≤ pe → pe - i < n → ∀ (M : Mem), M 191 3 = nI pe → MoC M 9 pe B → SeC M x → (∀ t, t < 10 → M 195 t = nI (nxO B x i t)) → ∃ M', gX7_nextInLock_10 n (nI i) M = some ((bst (nxO B x pe) 10).1, M') ∧ ∀ a, a ≠ 195 → M' a = M a := by
  intro n
  induction n with
  | zero => intro i _ h2; omega
  | succ n ih =>
    intro i h1 h2 M h0 h hS hc
    rw [gX7_nextInLock_10, h0]
    by_cases hi : pe ≤ i
    · have hi2 : i = pe := by omega
      subst hi2
      refine ⟨M, ?_, fun a _ => rfl⟩
      rw [if_pos (nI_le hi (by omega)), c_mostOf (c := 13 * i) (by decide) (by omega) (fun k hk => nxO_le hlg hW k i (Nat.le_refl _)) hc, Option.bind_some]
    · have hs := hW.2.2.1 i (by omega)
      have g : ldA 5 (M 10) (nI i) = some (nI (bS B i)) := c_size (o := 9) hpe h (by omega)
      obtain ⟨M1, e1, e2, e3⟩ := c_nx36 hpe hlg hW hx hx2 (show i < pe by omega) (gX7_nextInLock_10 n) (nxO B x i) FU 0 (by omega) (by unfold FU; omega) M h hS hc
      obtain ⟨M2, f1, f2⟩ := ih (i + 1) (by omega) (by omega) M1 (by rw [e3 _ (by decide)]; exact h0) (h.cg (fun a q1 q2 => e3 a (by omega))) (hS.cg (by rw [e3 _ (by decide)]) (e3 _ (by decide))) e2
      refine ⟨M2, ?_, fun a ha => by rw [f2 a ha, e3 a ha]⟩
      rw [if_neg (nI_ge (by omega) (by omega)), g, obs, i_0]
      exact e1.trans f1
theorem m_lk47 {pe lg : Nat} {B : Blk} {x : Nat × (Nat → Nat)} {x1 : Int32} (hpe : pe ≤ 5) (hlg : lg ≤ 12) (hW : WfB pe lg B) (hx : x.1 ≤ 4) (hx2 : ∀ i, i < x.1 → x.2 i < 10) {p : Nat} (hp : p < pe) (k36 : Int32 → Int32 → Int32 → Mem → Option (Int32 × Mem)) (w : Int32) (c : Nat → Nat) : ∀ n i, i ≤ bS B p + 1 → bS B p + 1 - i < n → ∀ (M : Mem), MoM (M 201) 0 pe B → SeM M x → (∀ t, t < 10 → M 211 t = nI (nxi (fitP B x p) (bH B p) x.1 (bS B p) c i t)) → ∃ M', gX8_lock_47 k36 n x1 (whi (fitP B x p) p w i) (nI p) (nI i) M = k36 x1 (whi (fitP B x p) p w (bS B p + 1)) (nI (p + 1)) M' ∧ (∀ t, t < 10 → M' 211 t = nI (nxi (fitP B x p) (bH B p) x.1 (bS B p) c (bS B p + 1) t)) ∧ ∀ a, a ≠ 211 → M' a = M a := by
  have hs := hW.2.2.1 p hp
  intro n
  induction n with
  | zero => intro i _ h2; omega
  | succ n ih =>
    intro i h1 h2 M h hS hc
    rw [gX8_lock_47, m_size hpe h hp, Option.bind_some, Option.bind_some]
    by_cases hi : bS B p < i
    · have hi2 : i = bS B p + 1 := by omega
      subst hi2
      exact ⟨M, by rw [if_pos (nI_lt hi (by omega)), nI_1], hc, fun a _ => rfl⟩
    · rw [if_neg (nI_nlt (by omega) (by omega)), m_fit hpe hlg hW h hx hx2 hS hp (by omega), Option.bind_some]
      by_cases hq : fitP B x p i
      · rw [if_pos hq, if_neg (by decide), Option.bind_some, Option.bind_some, hS.1, nI_add]
        by_cases hm : bS B p ≤ i + x.1
        · obtain ⟨M', e1, e2, e3⟩ := ih (i + 1) (by omega) (by omega) M h hS (fun t ht => by rw [nxi, if_neg (fun z => by omega)]; exact hc t ht)
          refine ⟨M', ?_, e2, e3⟩
          rw [whi, if_pos hq] at e1
          rw [if_pos (nI_le hm (by omega)), gX8_lock_115, nI_1, Option.bind_some]
          exact e1
        · have hh := hW.2.2.2.2.1 p hp (i + x.1) (by omega)
          obtain ⟨M', e1, e2, e3⟩ := ih (i + 1) (by omega) (by omega) (us M 211 (bH B p (i + x.1)) (nI (nxi (fitP B x p) (bH B p) x.1 (bS B p) c i (bH B p (i + x.1)) + 1))) (by rw [us_ne _ _ _ (by decide)]; exact h) (hS.cg (by rw [us_ne _ _ _ (by decide)]) (us_ne _ _ _ (by decide))) (fun t ht => by
            rw [nxi, if_pos ⟨hq, by omega⟩, us_app]
            by_cases htq : t = bH B p (i + x.1)
            · rw [if_pos ⟨rfl, htq⟩, if_pos htq, htq]
            · rw [if_neg (fun z => htq z.2), if_neg htq]; exact hc t ht)
          refine ⟨M', ?_, e2, fun a ha => by rw [e3 a ha, us_ne _ _ _ ha]⟩
          rw [whi, if_pos hq] at e1
          rw [if_neg (nI_ge (by omega) (by omega)), m_layer hpe hlg hW h hp (by omega), Option.bind_some, ldA_n _ hh (by decide), hc _ hh, Option.bind_some, nI_1, stA_n _ _ _ hh (by decide), Option.bind_some, gX8_lock_115, nI_1, Option.bind_some]
          exact e1
      · obtain ⟨M', e1, e2, e3⟩ := ih (i + 1) (by omega) (by omega) M h hS (fun t ht => by rw [nxi, if_neg (fun z => hq z.1)]; exact hc t ht)
        refine ⟨M', ?_, e2, e3⟩
        rw [whi, if_neg hq] at e1
        rw [if_neg hq, if_pos rfl, gX8_lock_115, nI_1, Option.bind_some]
        exact e1
theorem m_lk136 {M : Mem} {f : Nat → Nat} {c : Nat} {x1 w : Int32} (hc : c < 1000000) (hf : ∀ k, k < 10 → f k ≤ c) (h : ∀ k, k < 10 → M 211 k = nI (f k)) : ∀ n i, i ≤ 10 → 10 - i < n → gX8_lock_136 n x1 w (bst f i).1 (nI (bst f i).2) (nI i) M = some (if x1 = 0 then w else (bst f 10).1, M) := by
  intro n
  induction n with
  | zero => intro i _ h2; omega
  | succ n ih =>
    intro i h1 h2
    have hb := bst_le (f := f) (c := c) i (fun k hk => hf k (by omega))
    rw [gX8_lock_136]
    by_cases hi : 10 ≤ i
    · have hi2 : i = 10 := by omega
      subst hi2
      rw [if_pos (show (10 : Int32) ≤ nI 10 from nI_le (a := 10) (by omega) (by omega))]
      by_cases hz : x1 = 0
      · rw [if_pos hz, if_pos hz, gX8_lock_203]
      · rw [if_neg hz, if_neg hz, gX8_lock_203]
    · have hfi := hf i (by omega)
      have e := ih (i + 1) (by omega) (by omega)
      rw [bst] at e
      rw [if_neg (show ¬ (10 : Int32) ≤ nI i from nI_ge (b := 10) (by omega) (by omega)), ldA_n _ (by omega) (by decide), Option.bind_some, h i (by omega)]
      by_cases hq : f i ≤ (bst f i).2
      · rw [if_pos hq] at e
        rw [if_pos (nI_le hq (by omega)), gX8_lock_161, ldA_n _ (by omega) (by decide), Option.bind_some, h i (by omega), if_pos (nI_le hq (by omega)), gX8_lock_186, nI_1, Option.bind_some]
        exact e
      · rw [if_neg hq] at e
        rw [if_neg (nI_ge (by omega) (by omega)), gX8_lock_161, ldA_n _ (by omega) (by decide), Option.bind_some, h i (by omega), if_neg (nI_ge (by omega) (by omega)), Option.bind_some, gX8_lock_186, nI_1, Option.bind_some]
        exact e
theorem m_lk36 {pe lg : Nat} {B : Blk} {x : Nat × (Nat → Nat)} {x1 : Int32} (hpe : pe ≤ 5) (hlg : lg ≤ 12) (hW : WfB pe lg B) (hx : x.1 ≤ 4) (hx2 : ∀ i, i < x.1 → x.2 i < 10) : ∀ n i, i ≤ pe → pe - i < n → ∀ (M : Mem), M 197 0 = nI pe → MoM (M 201) 0 pe B → SeM M x → (∀ t, t < 10 → M 211 t = nI (nxO B x i t)) → ∃ M', gX8_lock_36 n x1 (whO B x i) (nI i) M = some (if x1 = 0 then whO B x pe else (bst (nxO B x pe) 10).1, M') ∧ ∀ a, a ≠ 211 → M' a = M a := by
  intro n
  induction n with
  | zero => intro i _ h2; omega
  | succ n ih =>
    intro i h1 h2 M h0 h hS hc
    rw [gX8_lock_36, h0]
    by_cases hi : pe ≤ i
    · have hi2 : i = pe := by omega
      subst hi2
      refine ⟨M, ?_, fun a _ => rfl⟩
      rw [if_pos (nI_le hi (by omega)), i_0]
      exact m_lk136 (f := nxO B x i) (c := 13 * i) (by omega) (fun k hk => nxO_le hlg hW k i (Nat.le_refl _)) hc FU 0 (by omega) (by unfold FU; omega)
    · have hs := hW.2.2.1 i (by omega)
      obtain ⟨M1, e1, e2, e3⟩ := m_lk47 (x1 := x1) hpe hlg hW hx hx2 (show i < pe by omega) (gX8_lock_36 n) (whO B x i) (nxO B x i) FU 0 (by omega) (by unfold FU; omega) M h hS hc
      obtain ⟨M2, f1, f2⟩ := ih (i + 1) (by omega) (by omega) M1 (by rw [e3 _ (by decide)]; exact h0) (by rw [e3 _ (by decide)]; exact h) (hS.cg (by rw [e3 _ (by decide)]) (e3 _ (by decide))) e2
      refine ⟨M2, ?_, fun a ha => by rw [f2 a ha, e3 a ha]⟩
      rw [if_neg (nI_ge (by omega) (by omega)), i_0]
      exact e1.trans f1
theorem m_lk13 {x1 : Int32} : ∀ n i, i ≤ 10 → 10 - i < n → ∀ (M : Mem), (∀ t, t < i → M 211 t = 0) → ∃ M', gX8_lock_13 n x1 (nI i) M = gX8_lock_36 FU x1 0 0 M' ∧ (∀ t, t < 10 → M' 211 t = 0) ∧ ∀ a, a ≠ 211 → M' a = M a := by
  intro n
  induction n with
  | zero => intro i _ h2; omega
  | succ n ih =>
    intro i h1 h2 M h
    rw [gX8_lock_13]
    by_cases hi : 10 ≤ i
    · exact ⟨M, by rw [if_pos (show (10 : Int32) ≤ nI i from nI_le (a := 10) hi (by omega))], fun t ht => h t (by omega), fun a _ => rfl⟩
    · obtain ⟨M', e1, e2, e3⟩ := ih (i + 1) (by omega) (by omega) (us M 211 i 0) (fun t ht => by
        rw [us_app]
        by_cases hti : t = i
        · rw [if_pos ⟨rfl, hti⟩]
        · rw [if_neg (fun z => hti z.2)]; exact h t (by omega))
      exact ⟨M', by rw [if_neg (show ¬ (10 : Int32) ≤ nI i from nI_ge (b := 10) (by omega) (by omega)), stA_n _ _ _ (by omega) (by decide), Option.bind_some, nI_1, Option.bind_some]; exact e1, e2, fun a ha => by rw [e3 a ha, us_ne _ _ _ ha]⟩
theorem sim_lock : Sim_lock II := by
  intro MC TC MM TM hI a1
  obtain ⟨rfl, A, hW, hC, hM⟩ := hI
  obtain ⟨σ, hs, ht⟩ := id hC.2.2.1
  have hWB := hW.2.2.1.2.1
  have hpe := hW.2.1.1
  have hlg := hW.2.1.2.2.1
  have hx := hW.2.2.2.2.1
  by_cases ha : a1 = 0 ∨ a1 = 1
  · have k2 : gX8_in a1 0 1 = some 1 := by
      rcases ha with rfl | rfl <;> decide
    obtain ⟨N1, e1, e2, e3⟩ := m_lk13 (x1 := a1) FU 0 (by omega) (by unfold FU; omega) MM (fun t ht => absurd ht (Nat.not_lt_zero t))
    obtain ⟨N2, f1, f2⟩ := m_lk36 (x1 := a1) hpe hlg hWB hx.1 hx.2 FU 0 (by omega) (by unfold FU; omega) N1 (by rw [e3 _ (by decide)]; exact hM.2.1.1) (by rw [e3 _ (by decide)]; exact hM.2.2.1.2.1) (hM.2.2.2.2.1.cg (by rw [e3 _ (by decide)]) (e3 _ (by decide))) (fun t ht => e2 t ht)
    have g1 : gX8_lock a1 MM = some (if a1 = 0 then whO (mB (aT A)) (aS A) (tP (aW A)) else (bst (nxO (mB (aT A)) (aS A) (tP (aW A))) 10).1, N2) := by
      rw [gX8_lock, k2, obs, if_neg (by decide), i_0]
      exact e1.trans f1
    have hRM : RM A N2 := hM.cg (fun i _ => by rw [f2 _ (by decide), e3 _ (by decide)]) (fun a q1 q2 => by rw [f2 a (by omega), e3 a (by omega)])
    by_cases h0 : a1 = 0
    · rw [if_pos h0] at g1
      have g2 : gX7_whoseLock MC = some (whO (mB (aT A)) (aS A) (tP (aW A))) := by
        rw [gX7_whoseLock, i_0]
        exact c_wh hpe hlg hWB hC.2.1.1 ht.2.1 hx.1 hx.2 hC.2.2.2.2.1 FU 0 (by omega) (by unfold FU; omega)
      refine ⟨(whO (mB (aT A)) (aS A) (tP (aW A)), MC), _, ?_, g1, rfl, rfl, A, hW, hC, hRM⟩
      rw [gX7_lock, if_pos h0, g2, obs]
    · rw [if_neg h0] at g1
      have h1 : a1 = 1 := ha.resolve_left h0
      obtain ⟨P1, u1, u2, u3, u4⟩ := c_fill (o := 195) (n0 := 10) (x := 0) (by decide) MC
      obtain ⟨P2, v1, v2⟩ := c_nx10 hpe hlg hWB hx.1 hx.2 FU 0 (by omega) (by unfold FU; omega) P1 (by rw [u2 _ (by decide)]; exact hC.2.1.1) (ht.2.1.cg (fun a q1 q2 => u2 a (by omega))) (hC.2.2.2.2.1.cg (by rw [u2 _ (by decide)]) (u2 _ (by decide))) (fun t ht => u4 t ht)
      have hRC : RC A P2 := hC.cg hW (by rw [v2 _ (by decide), u2 _ (by decide)]) (by rw [v2 _ (by decide), u2 _ (by decide)]) (fun a q1 q2 => by rw [v2 a (by omega), u2 a (by omega)]) (by rw [v2 _ (by decide), u2 _ (by decide)]) (by rw [v2 _ (by decide), u2 _ (by decide)]) (fun a q1 q2 => by rw [v2 a (by omega), u2 a (by omega)])
      have v1' : gX7_nextInLock_10 FU 0 P1 = some ((bst (nxO (mB (aT A)) (aS A) (tP (aW A))) 10).1, P2) := by rw [i_0]; exact v1
      refine ⟨((bst (nxO (mB (aT A)) (aS A) (tP (aW A))) 10).1, P2), _, ?_, g1, rfl, rfl, A, hW, hRC, hRM⟩
      rw [gX7_lock, if_neg h0, if_pos h1, gX7_nextInLock, u1, obs, v1', obs]
  · refine ⟨(-1, MC), (-1, MM), ?_, ?_, rfl, rfl, A, hW, hC, hM⟩
    · rw [gX7_lock, if_neg (fun q => ha (Or.inl q)), if_neg (fun q => ha (Or.inr q))]
    · rcases wi a1 1 (by decide) with ⟨s, hs2, rfl, k1, k2⟩ | ⟨k1, k2⟩
      · exfalso
        rcases (show s = 0 ∨ s = 1 by omega) with rfl | rfl
        · exact ha (Or.inl rfl)
        · exact ha (Or.inr rfl)
      · replace k2 : gX8_in a1 0 1 = some 0 := k2
        simp only [gX8_lock, k2, obs]; rw [if_pos trivial]
