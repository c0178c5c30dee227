def DC (M : Mem) (W : Twn) (j : Nat) (lt jt : Bool) : Prop := M 4 3 = nI (tP W) ∧ M 4 4 = nI (tL W) ∧ M 4 5 = nI j ∧ (∀ p, p < tP W → M 5 p = nI (tS W p)) ∧ (∀ p, p < tP W → M 6 p = nI (tW W p)) ∧ (∀ p, p < tP W → ∀ k, k < tW W p → M 7 (7 * p + k) = nI (tK W p k)) ∧ M 1 6 = bZ lt ∧ M 1 7 = bZ jt
def DM (M : Mem) (W : Twn) (j : Nat) (lt jt : Bool) : Prop := M 197 21 = nI (tP W) ∧ M 197 25 = (if lt = true then nI (tL W) else -1) ∧ M 197 26 = (if jt = true then nI j else -1) ∧ (∀ p, p < tP W → M 207 p = nI (tS W p)) ∧ (∀ p, p < tP W → M 208 p = nI (tW W p)) ∧ ∀ p, p < tP W → ∀ k, k < tW W p → M 209 (7 * p + k) = nI (tK W p k)
def WfD (W : Twn) (j : Nat) (lt jt : Bool) : Prop := WfT W ∧ j < 4 ∧ (lt = false → tL W = 12) ∧ (jt = false → j = 0)
theorem DC.cg {M M' : Mem} {W : Twn} {j : Nat} {lt jt : Bool} (h : DC M W j lt jt) (h3 : ∀ i, 5 < i → M' 1 i = M 1 i) (hq : ∀ a, 4 ≤ a → a < 8 → M' a = M a) : DC M' W j lt jt := by
  obtain ⟨h1, h2, h3', h4, h5, h6, h7, h8⟩ := h
  exact ⟨by rw [hq 4 (by decide) (by decide)]; exact h1, by rw [hq 4 (by decide) (by decide)]; exact h2, by rw [hq 4 (by decide) (by decide)]; exact h3', fun p hp => by rw [hq 5 (by decide) (by decide)]; exact h4 p hp, fun p hp => by rw [hq 6 (by decide) (by decide)]; exact h5 p hp, fun p hp k hk => by rw [hq 7 (by decide) (by decide)]; exact h6 p hp k hk, by rw [h3 6 (by decide)]; exact h7, by rw [h3 7 (by decide)]; exact h8⟩
theorem DM.cg {M M' : Mem} {W : Twn} {j : Nat} {lt jt : Bool} (h : DM M W j lt jt) (h3 : ∀ i, 19 < i → M' 197 i = M 197 i) (hq : ∀ a, 207 ≤ a → a < 210 → M' a = M a) : DM M' W j lt jt := by
  obtain ⟨h1, h2, h3', h4, h5, h6⟩ := h
  exact ⟨by rw [h3 21 (by decide)]; exact h1, by rw [h3 25 (by decide)]; exact h2, by rw [h3 26 (by decide)]; exact h3', fun p hp => by rw [hq 207 (by decide) (by decide)]; exact h4 p hp, fun p hp => by rw [hq 208 (by decide) (by decide)]; exact h5 p hp, fun p hp k hk => by rw [hq 209 (by decide) (by decide)]; exact h6 p hp k hk⟩
theorem DC.fr {M M' : Mem} {W : Twn} {j : Nat} {lt jt : Bool} (h : DC M W j lt jt) (hf : FrC M M') : DC M' W j lt jt := h.cg (fun i hi => hf.1 i (by omega)) (fun a z1 z2 => hf.2 a (by omega))
theorem DM.fr {M M' : Mem} {W : Twn} {j : Nat} {lt jt : Bool} (h : DM M W j lt jt) (hf : FrM M M') : DM M' W j lt jt := h.cg (fun i hi => hf.1 i (by omega)) (fun a z1 z2 => hf.2 a (by omega))
theorem DM.u19 {M : Mem} {W : Twn} {j : Nat} {lt jt : Bool} (h : DM M W j lt jt) (v : Int32) : DM (us M 197 19 v) W j lt jt := h.cg (fun i hi => by rw [us_app, if_neg (fun z => by omega)]) (fun a z1 z2 => us_ne _ _ _ (by omega))
def OkI (x : Nat × (Nat → Nat)) (MC MM : Mem) (st : Nat) : Prop := ∃ (MC' MC'' MM'' : Mem) (st'' kind val nx : Nat) (W : Twn) (j : Nat) (lt jt : Bool), gX2_tellItem MC = some (1, MC') ∧ MC' 1 4 = 3 ∧ gX2_advance MC' = some MC'' ∧ gX8_readItem MM = some MM'' ∧ TR x MC'' MM'' st'' kind val nx ∧ DC MC'' W j lt jt ∧ DM MM'' W j lt jt ∧ WfD W j lt jt ∧ MM'' 197 19 = 0 ∧ st + 2 ≤ st'' ∧ ScC MC MC'' ∧ ScM MM MM'' ∧ MM'' 197 20 = MM 197 20
def FaI (x : Nat × (Nat → Nat)) (MC MM : Mem) : Prop := ∃ (r : Int32) (MC' MM' : Mem) (st' : Nat), gX2_tellItem MC = some (r, MC') ∧ (r = 0 ∨ (r = 1 ∧ ¬ MC' 1 4 = 3)) ∧ MC' 1 3 = nI st' ∧ st' ≤ x.1 ∧ gX8_readItem MM = some MM' ∧ MM' 197 19 = 1 ∧ MM' 197 16 = nI st' ∧ ScC MC MC' ∧ ScM MM MM'
theorem m_end1 {M : Mem} (h : ¬ M 197 19 = 0) : gX8_readItem_74 M = some (us M 197 19 1) := by
  rw [gX8_readItem_74, if_neg h, gX8_readItem_90, gX8_readItem_95, pfZ_1, obs, if_neg (show ¬ us M 197 19 1 197 19 = 0 by rw [us_app, if_pos ⟨rfl, rfl⟩]; decide)]
theorem both_end {x : Nat × (Nat → Nat)} (hX : WfX x) {MC MM : Mem} {st kind val nx : Nat} (hC : TxC MC x) (hM : TxM MM x) (hT : TR x MC MM st kind val nx) (h19 : MM 197 19 = 0) : (∃ MC' MM' st' kind' val' nx', MC 1 4 = 3 ∧ gX2_advance MC = some MC' ∧ gX8_readItem_74 MM = some MM' ∧ TR x MC' MM' st' kind' val' nx' ∧ st + 1 ≤ st' ∧ FrC MC MC' ∧ FrM (us MM 197 19 0) MM') ∨ (¬ MC 1 4 = 3 ∧ gX8_readItem_74 MM = some (us MM 197 19 1)) := by
  by_cases hk : kind = 3
  · subst hk
    obtain ⟨p1, p2, p3, p4⟩ := hT.2.2.2.2.2.1 (Or.inr (Or.inr rfl))
    obtain ⟨C1, M1, st1, kind1, val1, nx1, a1, a2, a3, a4, a5, a6⟩ := both_adv hX p2 hC (hM.sc (us_scM MM (i := 19) 0 (by decide))) p3 (by rw [us_app, if_neg (by decide)]; exact p4)
    left
    refine ⟨C1, M1, st1, kind1, val1, nx1, hT.2.1, a1, ?_, a3, by omega, a5, a6⟩
    rw [gX8_readItem_74, if_pos h19, hT.2.2.2.2.2.2.2.1 (by decide), if_pos (show nI 3 = 3 from rfl), gX8_readItem_95, pfZ_0, obs, if_pos (show us MM 197 19 0 197 19 = 0 by rw [us_app, if_pos ⟨rfl, rfl⟩]), a2, obs]
  · right
    have h5 := hT.2.2.2.2.1
    refine ⟨by rw [hT.2.1]; exact nI_ne (b := 3) (by omega) (by omega) hk, ?_⟩
    rw [gX8_readItem_74, if_pos h19, if_neg (show ¬ MM 197 17 = 3 from fun z => by
      by_cases h4k : kind = 4
      · rcases hT.2.2.2.2.2.2.2.2 h4k with q | ⟨q, _⟩
        · rw [q] at z; exact absurd z (by decide)
        · rw [q] at z; exact absurd z (by decide)
      · rw [hT.2.2.2.2.2.2.2.1 h4k] at z; exact nI_ne (b := 3) (by omega) (by omega) hk z), gX8_readItem_90, gX8_readItem_95, pfZ_1, obs, if_neg (show ¬ us MM 197 19 1 197 19 = 0 by rw [us_app, if_pos ⟨rfl, rfl⟩]; decide)]
abbrev mbP (W : Twn) (lt jt : Bool) (v : Nat) : Prop := (v = 106 ∧ jt = false) ∨ (v = 109 ∧ lt = false) ∨ (v = 112 ∧ tP W < 5)
theorem bZ_f {b : Bool} (h : b = false) : bZ b = 0 := by rw [h]; rfl
theorem bZ_t {b : Bool} (h : ¬ b = false) : ¬ bZ b = 0 := by rw [Bool.not_eq_false] at h; rw [h]; decide
theorem c_may {M : Mem} {W : Twn} {j : Nat} {lt jt : Bool} (h : DC M W j lt jt) (hW : WfD W j lt jt) {v : Nat} (hv : v < 256) : gX2_mayBegin (nI v) M = some (if mbP W lt jt v then 1 else 0) := by
  have hp := hW.1.1
  rw [gX2_mayBegin, h.2.2.2.2.2.2.2, h.2.2.2.2.2.2.1, h.1]
  by_cases h106 : v = 106
  · rw [if_pos (show nI v = 106 from congrArg nI h106)]
    by_cases q : jt = false
    · rw [if_pos (bZ_f q), gX2_mayBegin_78, zr_1, obs, if_pos (Or.inl ⟨h106, q⟩)]
    · rw [if_neg (bZ_t q), gX2_mayBegin_78, zr_0, obs, if_neg (by rintro (z | z | z); exact q z.2; omega; omega)]
  · rw [if_neg (show ¬ nI v = 106 from nI_ne (b := 106) (by omega) (by omega) h106)]
    by_cases h109 : v = 109
    · rw [if_pos (show nI v = 109 from congrArg nI h109)]
      by_cases q : lt = false
      · rw [if_pos (bZ_f q), gX2_mayBegin_65, zr_1, obs, if_pos (Or.inr (Or.inl ⟨h109, q⟩))]
      · rw [if_neg (bZ_t q), gX2_mayBegin_65, zr_0, obs, if_neg (by rintro (z | z | z); omega; exact q z.2; omega)]
    · rw [if_neg (show ¬ nI v = 109 from nI_ne (b := 109) (by omega) (by omega) h109)]
      by_cases h112 : v = 112
      · rw [if_pos (show nI v = 112 from congrArg nI h112)]
        by_cases q : tP W < 5
        · rw [if_neg (show ¬ (5 : Int32) ≤ _ from nI_ge (b := 5) q (by omega)), gX2_mayBegin_52, zr_1, obs, if_pos (Or.inr (Or.inr ⟨h112, q⟩))]
        · rw [if_pos (show (5 : Int32) ≤ _ from nI_le (a := 5) (by omega) (by omega)), gX2_mayBegin_52, zr_0, obs, if_neg (by rintro (z | z | z) <;> omega)]
      · rw [if_neg (show ¬ nI v = 112 from nI_ne (b := 112) (by omega) (by omega) h112), if_neg (by rintro (z | z | z) <;> omega)]
theorem m_may {M : Mem} {W : Twn} {j : Nat} {lt jt : Bool} (h : DM M W j lt jt) (hW : WfD W j lt jt) {v : Nat} (hv : v < 256) : gX8_mayBegin (nI v) M = some (if mbP W lt jt v then 1 else 0) := by
  have hp := hW.1.1
  have hj := hW.2.1
  have hl := hW.1.2.2.1
  rw [gX8_mayBegin, h.2.2.1, h.2.1, h.1]
  by_cases h106 : v = 106
  · rw [if_pos (show nI v = 106 from congrArg nI h106)]
    by_cases q : jt = false
    · rw [if_neg (show ¬ jt = true by rw [q]; decide), if_neg (show ¬ (0 : Int32) ≤ -1 by decide), gX8_mayBegin_75, zr_1, obs, if_pos (show mbP W lt jt v from Or.inl ⟨h106, q⟩)]
    · rw [if_pos (show jt = true by rwa [Bool.not_eq_false] at q), if_pos (nI_pos' (by omega)), gX8_mayBegin_75, zr_0, obs, if_neg (show ¬ mbP W lt jt v by rintro (z | z | z); exact q z.2; omega; omega)]
  · rw [if_neg (show ¬ nI v = 106 from nI_ne (b := 106) (by omega) (by omega) h106)]
    by_cases h109 : v = 109
    · rw [if_pos (show nI v = 109 from congrArg nI h109)]
      by_cases q : lt = false
      · rw [if_neg (show ¬ lt = true by rw [q]; decide), if_neg (show ¬ (0 : Int32) ≤ -1 by decide), gX8_mayBegin_62, zr_1, obs, if_pos (show mbP W lt jt v from Or.inr (Or.inl ⟨h109, q⟩))]
      · rw [if_pos (show lt = true by rwa [Bool.not_eq_false] at q), if_pos (nI_pos' (by omega)), gX8_mayBegin_62, zr_0, obs, if_neg (show ¬ mbP W lt jt v by rintro (z | z | z); omega; exact q z.2; omega)]
    · rw [if_neg (show ¬ nI v = 109 from nI_ne (b := 109) (by omega) (by omega) h109)]
      by_cases h112 : v = 112
      · rw [if_pos (show nI v = 112 from congrArg nI h112)]
        by_cases q : tP W < 5
        · rw [if_neg (show ¬ (5 : Int32) ≤ _ from nI_ge (b := 5) q (by omega)), gX8_mayBegin_49, zr_1, obs, if_pos (show mbP W lt jt v from Or.inr (Or.inr ⟨h112, q⟩))]
        · rw [if_pos (show (5 : Int32) ≤ _ from nI_le (a := 5) (by omega) (by omega)), gX8_mayBegin_49, zr_0, obs, if_neg (show ¬ mbP W lt jt v by rintro (z | z | z) <;> omega)]
      · rw [if_neg (show ¬ nI v = 112 from nI_ne (b := 112) (by omega) (by omega) h112), if_neg (show ¬ mbP W lt jt v by rintro (z | z | z) <;> omega)]
/-- after an item's letter: what is left of it -/
theorem item_m {x : Nat × (Nat → Nat)} (hX : WfX x) {MC MM : Mem} {st kind val nx : Nat} (hC : TxC MC x) (hM : TxM MM x) (hT : TR x MC MM st kind val nx) (h19 : MM 197 19 = 0) {W : Twn} {j : Nat} {lt jt : Bool} (dC : DC MC W j lt jt) (dM : DM MM W j lt jt) (hW : WfD W j lt jt) : (∃ MC1 MM1 st1 kind1 val1 nx1 W1, gX2_tellLongest MC = some (1, MC1) ∧ ((gX8_takesNumber 1 12 MM).bind fun u114 => (some (us u114.2 197 25 u114.1)).bind fun M116 => gX8_readItem_74 M116) = gX8_readItem_74 MM1 ∧ TR x MC1 MM1 st1 kind1 val1 nx1 ∧ st ≤ st1 ∧ MM1 197 19 = 0 ∧ DC MC1 W1 j true jt ∧ DM MM1 W1 j true jt ∧ WfD W1 j true jt ∧ ScC MC MC1 ∧ ScM MM MM1 ∧ MM1 197 20 = MM 197 20) ∨ (∃ MM1, gX2_tellLongest MC = some (0, MC) ∧ ((gX8_takesNumber 1 12 MM).bind fun u114 => (some (us u114.2 197 25 u114.1)).bind fun M116 => gX8_readItem_74 M116) = some MM1 ∧ MM1 197 19 = 1 ∧ MM1 197 16 = nI st ∧ ScM MM MM1) := by
  rcases both_take (lo := 1) (hi := 12) hT h19 (by omega) (by omega) with ⟨b1, b2, b3⟩ | ⟨b1, b2, b3, b4, b5⟩
  · right
    replace b2 : gX2_isNumber 1 12 MC = some 0 := b2
    replace b3 : gX8_takesNumber 1 12 MM = some (0, us MM 197 19 1) := b3
    refine ⟨us (us (us MM 197 19 1) 197 25 0) 197 19 1, ?_, ?_, ?_, ?_, ((us_scM MM _ (by decide)).tr (us_scM _ _ (by decide))).tr (us_scM _ _ (by decide))⟩
    · rw [gX2_tellLongest, b2, obs, if_pos rfl]
    · rw [b3, obs, obs]
      exact m_end1 (M := us (us MM 197 19 1) 197 25 0) (by rw [us_app, if_neg (by decide), us_app, if_pos ⟨rfl, rfl⟩]; decide)
    · rw [us_app, if_pos ⟨rfl, rfl⟩]
    · rw [us_app, if_neg (by decide), us_app, if_neg (by decide), us_app, if_neg (by decide)]; exact hT.2.2.1
  · left
    subst b1
    replace b4 : gX2_isNumber 1 12 MC = some 1 := b4
    replace b5 : gX8_takesNumber 1 12 MM = (gX8_next (us MM 197 19 0)).bind fun u => some (nI val, u) := b5
    obtain ⟨p1, p2, p3, p4⟩ := hT.2.2.2.2.2.1 (Or.inr (Or.inl rfl))
    obtain ⟨v1, v2, v3⟩ := hT.2.2.2.2.2.2.1 (Or.inr rfl)
    have sC0 : ScC MC (us (us MC 4 4 (nI val)) 1 6 1) := (us_scC MC 4 _ (by decide) (by decide)).tr (us_scC _ 6 _ (by decide) (by decide))
    obtain ⟨C1, M1, st1, kind1, val1, nx1, a1, a2, a3, a4, a5, a6⟩ := both_adv hX p2 (hC.sc sC0) (hM.sc (us_scM MM (i := 19) 0 (by decide))) (by rw [us_app, if_neg (by decide), us_ne _ _ _ (by decide)]; exact p3) (by rw [us_app, if_neg (by decide)]; exact p4)
    have dC0 : DC (us (us MC 4 4 (nI val)) 1 6 1) (tP W, val, W.2.2) j true jt := by
      obtain ⟨h1, h2, h3, h4, h5, h6, h7, h8⟩ := dC
      refine ⟨?_, ?_, ?_, fun p hp => ?_, fun p hp => ?_, fun p hp k hk => ?_, ?_, ?_⟩
      · rw [us_ne _ _ _ (by decide), us_app, if_neg (by decide)]; exact h1
      · rw [us_ne _ _ _ (by decide), us_app, if_pos ⟨rfl, rfl⟩]; rfl
      · rw [us_ne _ _ _ (by decide), us_app, if_neg (by decide)]; exact h3
      · rw [us_ne _ _ _ (by decide), us_ne _ _ _ (by decide)]; exact h4 p hp
      · rw [us_ne _ _ _ (by decide), us_ne _ _ _ (by decide)]; exact h5 p hp
      · rw [us_ne _ _ _ (by decide), us_ne _ _ _ (by decide)]; exact h6 p hp k hk
      · rw [us_app, if_pos ⟨rfl, rfl⟩]; rfl
      · rw [us_app, if_neg (by decide), us_ne _ _ _ (by decide)]; exact h8
    have dM1 := (dM.u19 0).fr a6
    refine ⟨C1, us M1 197 25 (nI val), st1, kind1, val1, nx1, (tP W, val, W.2.2), ?_, ?_, a3.cgM (fun i z1 z2 => by rw [us_app, if_neg (fun z => by omega)]), by omega, ?_, dC0.fr a5, ?_, ⟨⟨hW.1.1, b2, b3, hW.1.2.2.2⟩, hW.2.1, fun z => absurd z (by decide), hW.2.2.2⟩, sC0.tr a5.sc, ((us_scM MM (i := 19) 0 (by decide)).tr a6.sc).tr (us_scM _ _ (by decide)), ?_⟩
    · rw [gX2_tellLongest, b4, obs, if_neg (by decide), v1, obs, obs, a1, obs]
    · rw [b5, a2, obs, obs, obs]
    · rw [us_app, if_neg (by decide), a6.1 19 (by decide), us_app, if_pos ⟨rfl, rfl⟩]
    · obtain ⟨h1, h2, h3, h4, h5, h6⟩ := dM1
      refine ⟨?_, ?_, ?_, fun p hp => ?_, fun p hp => ?_, fun p hp k hk => ?_⟩
      · rw [us_app, if_neg (by decide)]; exact h1
      · rw [us_app, if_pos ⟨rfl, rfl⟩]; rfl
      · rw [us_app, if_neg (by decide)]; exact h3
      · rw [us_ne _ _ _ (by decide)]; exact h4 p hp
      · rw [us_ne _ _ _ (by decide)]; exact h5 p hp
      · rw [us_ne _ _ _ (by decide)]; exact h6 p hp k hk
    · rw [us_app, if_neg (by decide), a6.1 20 (by decide), us_app, if_neg (by decide)]
theorem item_j {x : Nat × (Nat → Nat)} (hX : WfX x) {MC MM : Mem} {st kind val nx : Nat} (hC : TxC MC x) (hM : TxM MM x) (hT : TR x MC MM st kind val nx) (h19 : MM 197 19 = 0) {W : Twn} {j : Nat} {lt jt : Bool} (dC : DC MC W j lt jt) (dM : DM MM W j lt jt) (hW : WfD W j lt jt) : (∃ MC1 MM1 st1 kind1 val1 nx1 j1, gX2_tellChair MC = some (1, MC1) ∧ ((gX8_takesNumber 0 3 MM).bind fun u105 => (some (us u105.2 197 26 u105.1)).bind fun M107 => gX8_readItem_74 M107) = gX8_readItem_74 MM1 ∧ TR x MC1 MM1 st1 kind1 val1 nx1 ∧ st ≤ st1 ∧ MM1 197 19 = 0 ∧ DC MC1 W j1 lt true ∧ DM MM1 W j1 lt true ∧ WfD W j1 lt true ∧ ScC MC MC1 ∧ ScM MM MM1 ∧ MM1 197 20 = MM 197 20) ∨ (∃ MM1, gX2_tellChair MC = some (0, MC) ∧ ((gX8_takesNumber 0 3 MM).bind fun u105 => (some (us u105.2 197 26 u105.1)).bind fun M107 => gX8_readItem_74 M107) = some MM1 ∧ MM1 197 19 = 1 ∧ MM1 197 16 = nI st ∧ ScM MM MM1) := by
  rcases both_take (lo := 0) (hi := 3) hT h19 (by omega) (by omega) with ⟨b1, b2, b3⟩ | ⟨b1, b2, b3, b4, b5⟩
  · right
    replace b2 : gX2_isNumber 0 3 MC = some 0 := b2
    replace b3 : gX8_takesNumber 0 3 MM = some (0, us MM 197 19 1) := b3
    refine ⟨us (us (us MM 197 19 1) 197 26 0) 197 19 1, ?_, ?_, ?_, ?_, ((us_scM MM _ (by decide)).tr (us_scM _ _ (by decide))).tr (us_scM _ _ (by decide))⟩
    · rw [gX2_tellChair, b2, obs, if_pos rfl]
    · rw [b3, obs, obs]
      exact m_end1 (M := us (us MM 197 19 1) 197 26 0) (by rw [us_app, if_neg (by decide), us_app, if_pos ⟨rfl, rfl⟩]; decide)
    · rw [us_app, if_pos ⟨rfl, rfl⟩]
    · rw [us_app, if_neg (by decide), us_app, if_neg (by decide), us_app, if_neg (by decide)]; exact hT.2.2.1
  · left
    subst b1
    replace b4 : gX2_isNumber 0 3 MC = some 1 := b4
    replace b5 : gX8_takesNumber 0 3 MM = (gX8_next (us MM 197 19 0)).bind fun u => some (nI val, u) := b5
    obtain ⟨p1, p2, p3, p4⟩ := hT.2.2.2.2.2.1 (Or.inr (Or.inl rfl))
    obtain ⟨v1, v2, v3⟩ := hT.2.2.2.2.2.2.1 (Or.inr rfl)
    have sC0 : ScC MC (us (us MC 4 5 (nI val)) 1 7 1) := (us_scC MC 5 _ (by decide) (by decide)).tr (us_scC _ 7 _ (by decide) (by decide))
    obtain ⟨C1, M1, st1, kind1, val1, nx1, a1, a2, a3, a4, a5, a6⟩ := both_adv hX p2 (hC.sc sC0) (hM.sc (us_scM MM (i := 19) 0 (by decide))) (by rw [us_app, if_neg (by decide), us_ne _ _ _ (by decide)]; exact p3) (by rw [us_app, if_neg (by decide)]; exact p4)
    have dC0 : DC (us (us MC 4 5 (nI val)) 1 7 1) W val lt true := by
      obtain ⟨h1, h2, h3, h4, h5, h6, h7, h8⟩ := dC
      refine ⟨?_, ?_, ?_, fun p hp => ?_, fun p hp => ?_, fun p hp k hk => ?_, ?_, ?_⟩
      · rw [us_ne _ _ _ (by decide), us_app, if_neg (by decide)]; exact h1
      · rw [us_ne _ _ _ (by decide), us_app, if_neg (by decide)]; exact h2
      · rw [us_ne _ _ _ (by decide), us_app, if_pos ⟨rfl, rfl⟩]
      · rw [us_ne _ _ _ (by decide), us_ne _ _ _ (by decide)]; exact h4 p hp
      · rw [us_ne _ _ _ (by decide), us_ne _ _ _ (by decide)]; exact h5 p hp
      · rw [us_ne _ _ _ (by decide), us_ne _ _ _ (by decide)]; exact h6 p hp k hk
      · rw [us_app, if_neg (by decide), us_ne _ _ _ (by decide)]; exact h7
      · rw [us_app, if_pos ⟨rfl, rfl⟩]; rfl
    have dM1 := (dM.u19 0).fr a6
    refine ⟨C1, us M1 197 26 (nI val), st1, kind1, val1, nx1, val, ?_, ?_, a3.cgM (fun i z1 z2 => by rw [us_app, if_neg (fun z => by omega)]), by omega, ?_, dC0.fr a5, ?_, ⟨hW.1, by omega, hW.2.2.1, fun z => absurd z (by decide)⟩, sC0.tr a5.sc, ((us_scM MM (i := 19) 0 (by decide)).tr a6.sc).tr (us_scM _ _ (by decide)), ?_⟩
    · rw [gX2_tellChair, b4, obs, if_neg (by decide), v1, obs, obs, a1, obs]
    · rw [b5, a2, obs, obs, obs]
    · rw [us_app, if_neg (by decide), a6.1 19 (by decide), us_app, if_pos ⟨rfl, rfl⟩]
    · obtain ⟨h1, h2, h3, h4, h5, h6⟩ := dM1
      refine ⟨?_, ?_, ?_, fun p hp => ?_, fun p hp => ?_, fun p hp k hk => ?_⟩
      · rw [us_app, if_neg (by decide)]; exact h1
      · rw [us_app, if_neg (by decide)]; exact h2
      · rw [us_app, if_pos ⟨rfl, rfl⟩]; rfl
      · rw [us_ne _ _ _ (by decide)]; exact h4 p hp
      · rw [us_ne _ _ _ (by decide)]; exact h5 p hp
      · rw [us_ne _ _ _ (by decide)]; exact h6 p hp k hk
    · rw [us_app, if_neg (by decide), a6.1 20 (by decide), us_app, if_neg (by decide)]
theorem item_p {x : Nat × (Nat → Nat)} (hX : WfX x) {MC MM : Mem} {st kind val nx : Nat} (hC : TxC MC x) (hM : TxM MM x) (hT : TR x MC MM st kind val nx) (h19 : MM 197 19 = 0) {W : Twn} {j : Nat} {lt jt : Bool} (dC : DC MC W j lt jt) (dM : DM MM W j lt jt) (hW : WfD W j lt jt) (hp5 : tP W < 5) : (∃ MC1 MM1 st1 kind1 val1 nx1 W1, gX2_tellOne (MC 4 3) MC = some (1, MC1) ∧ gX8_readOne MM = some MM1 ∧ TR x MC1 MM1 st1 kind1 val1 nx1 ∧ st ≤ st1 ∧ MM1 197 19 = 0 ∧ DC MC1 W1 j lt jt ∧ DM MM1 W1 j lt jt ∧ WfD W1 j lt jt ∧ ScC MC MC1 ∧ ScM MM MM1 ∧ MM1 197 20 = MM 197 20) ∨ (∃ r MC1 MM1 st1, gX2_tellOne (MC 4 3) MC = some (r, MC1) ∧ (r = 0 ∨ (r = 1 ∧ ¬ MC1 1 4 = 3)) ∧ MC1 1 3 = nI st1 ∧ st1 ≤ x.1 ∧ gX8_readOne MM = some MM1 ∧ MM1 197 19 = 1 ∧ MM1 197 16 = nI st1 ∧ ScC MC MC1 ∧ ScM MM MM1) := by
  rcases both_take (lo := 0) (hi := 9) hT h19 (by omega) (by omega) with ⟨b1, b2, b3⟩ | ⟨b1, b2, b3, b4, b5⟩
  · right
    replace b2 : gX2_isNumber 0 9 MC = some 0 := b2
    replace b3 : gX8_takesNumber 0 9 MM = some (0, us MM 197 19 1) := b3
    refine ⟨0, MC, us (us (us (us MM 197 19 1) 207 (tP W) 0) 208 (tP W) (nI 0)) 197 21 (nI (tP W + 1)), st, ?_, Or.inl rfl, hT.1, hT.2.2.2.1, ?_, ?_, ?_, fun a _ => rfl, (((us_scM MM _ (by decide)).tr (us_scM2 _ _ _ (by decide) (by decide))).tr (us_scM2 _ _ _ (by decide) (by decide))).tr (us_scM _ _ (by decide))⟩
    · rw [gX2_tellOne, b2, obs, if_pos rfl]
    · have g19 : ¬ us (us MM 197 19 1) 207 (tP W) 0 197 19 = 0 := by rw [us_ne _ _ _ (by decide), us_app, if_pos ⟨rfl, rfl⟩]; decide
      have g21 : us (us (us MM 197 19 1) 207 (tP W) 0) 208 (tP W) (nI 0) 197 21 = nI (tP W) := by rw [us_ne _ _ _ (by decide), us_ne _ _ _ (by decide), us_app, if_neg (by decide)]; exact dM.1
      rw [gX8_readOne, dM.1, obs, b3, obs, stA_n _ _ _ hp5 (by decide), obs, show FU = 4095 + 1 from rfl, gX8_readOne_20, if_neg g19, gX8_readOne_69, i_0, stA_n _ _ _ hp5 (by decide), obs]
      rw [show us (us (us MM 197 19 1) 207 (tP W) (nI 0)) 208 (tP W) (nI 0) 197 21 = nI (tP W) from g21, nI_1, obs]
    · rw [us_app, if_neg (by decide), us_ne _ _ _ (by decide), us_ne _ _ _ (by decide), us_app, if_pos ⟨rfl, rfl⟩]
    · rw [us_app, if_neg (by decide), us_ne _ _ _ (by decide), us_ne _ _ _ (by decide), us_app, if_neg (by decide)]; exact hT.2.2.1
  · subst b1
    replace b4 : gX2_isNumber 0 9 MC = some 1 := b4
    replace b5 : gX8_takesNumber 0 9 MM = (gX8_next (us MM 197 19 0)).bind fun u => some (nI val, u) := b5
    obtain ⟨p1, p2, p3, p4⟩ := hT.2.2.2.2.2.1 (Or.inr (Or.inl rfl))
    obtain ⟨v1, v2, v3⟩ := hT.2.2.2.2.2.2.1 (Or.inr rfl)
    have sC0 : ScC MC (us MC 5 (tP W) (nI val)) := us_scC MC (tP W) _ (by decide) (by decide)
    obtain ⟨C1, M1, st1, kind1, val1, nx1, a1, a2, a3, a4, a5, a6⟩ := both_adv hX p2 (hC.sc sC0) (hM.sc (us_scM MM (i := 19) 0 (by decide))) (by rw [us_ne _ _ _ (by decide)]; exact p3) (by rw [us_app, if_neg (by decide)]; exact p4)
    have sC1 : ScC MC C1 := sC0.tr a5.sc
    have sM1 : ScM MM (us M1 207 (tP W) (nI val)) := ((us_scM MM (i := 19) 0 (by decide)).tr a6.sc).tr (us_scM2 _ _ _ (by decide) (by decide))
    have eC : gX2_tellOne (MC 4 3) MC = gX2_tellOne_31 FU (nI (tP W)) (nI 0) C1 := by
      rw [gX2_tellOne, b4, obs, if_neg (by decide), dC.1, v1, stA_n _ _ _ hp5 (by decide), obs, a1, obs]; rfl
    have eM : gX8_readOne MM = gX8_readOne_20 FU (nI (tP W)) (nI 0) (us M1 207 (tP W) (nI val)) := by
      rw [gX8_readOne, dM.1, obs, b5, a2, obs, obs, stA_n _ _ _ hp5 (by decide), obs]; rfl
    have c5 : ∀ q, C1 5 q = us MC 5 (tP W) (nI val) 5 q := fun q => by rw [a5.2 5 (by decide)]
    have g43 : C1 4 3 = nI (tP W) := by rw [a5.2 4 (by decide), us_ne _ _ _ (by decide)]; exact dC.1
    have g21 : us M1 207 (tP W) (nI val) 197 21 = nI (tP W) := by rw [us_ne _ _ _ (by decide), a6.1 21 (by decide), us_app, if_neg (by decide)]; exact dM.1
    have g19 : us M1 207 (tP W) (nI val) 197 19 = 0 := by rw [us_ne _ _ _ (by decide), a6.1 19 (by decide), us_app, if_pos ⟨rfl, rfl⟩]
    have hwk := both_week hX hp5 7 0 FU FU (fun _ => 0) C1 (us M1 207 (tP W) (nI val)) st1 kind1 val1 nx1 rfl (by omega) (by unfold FU; omega) (by unfold FU; omega) (hC.sc sC1) (hM.sc sM1) (a3.cgM (fun i _ _ => by rw [us_ne _ _ _ (by decide)])) g19 g43 g21 (fun k hk => absurd hk (Nat.not_lt_zero k))
    rcases hwk with ⟨MC', MM', n', wk', st', kind', val', nx', r1, r2, r3, r4, r5, r6, r7, r8, r9, r10, r11, r12, r13, r14, r15, r16, r17, r18, r19, r20, r21, r22, r23⟩ | ⟨r, MC', MM', st', r1, r2, r3, r4, r5, r6, r7, r8, r9⟩
    · left
      obtain ⟨h1, h2, h3, h4, h5, h6, h7, h8⟩ := dC
      obtain ⟨m1, m2, m3, m4, m5, m6⟩ := dM
      refine ⟨MC', MM', st', kind', val', nx', (tP W + 1, tL W, (fun q => if q = tP W then val else tS W q), (fun q => if q = tP W then n' else tW W q), fun q k => if q = tP W then wk' k else tK W q k), eC.trans r1, eM.trans r2, r6, by omega, r12, ⟨r10, ?_, ?_, fun q hq => ?_, fun q hq => ?_, fun q hq k hk => ?_, ?_, ?_⟩, ⟨r11, ?_, ?_, fun q hq => ?_, fun q hq => ?_, fun q hq k hk => ?_⟩, ⟨⟨?_, hW.1.2.1, hW.1.2.2.1, fun q hq => ?_, fun q hq => ?_, fun q hq k hk => ?_⟩, hW.2.1, hW.2.2.1, hW.2.2.2⟩, sC1.tr r13, sM1.tr r14, ?_⟩
      · rw [r21 4 (by decide), a5.2 4 (by decide), us_ne _ _ _ (by decide)]; exact h2
      · rw [r21 5 (by decide), a5.2 4 (by decide), us_ne _ _ _ (by decide)]; exact h3
      · show MC' 5 q = nI (if q = tP W then val else tS W q)
        have hq : q < tP W + 1 := hq
        rw [r19, c5, us_app]
        by_cases z : q = tP W
        · rw [if_pos ⟨rfl, z⟩, if_pos z]
        · rw [if_neg (fun y => z y.2), if_neg z]; exact h4 q (by omega)
      · show MC' 6 q = nI (if q = tP W then n' else tW W q)
        have hq : q < tP W + 1 := hq
        by_cases z : q = tP W
        · rw [if_pos z, z]; exact r8
        · rw [if_neg z, r15 q z, a5.2 6 (by decide), us_ne _ _ _ (by decide)]; exact h5 q (by omega)
      · show MC' 7 (7 * q + k) = nI (if q = tP W then wk' k else tK W q k)
        have hq : q < tP W + 1 := hq
        have hk : k < if q = tP W then n' else tW W q := hk
        by_cases z : q = tP W
        · rw [if_pos z] at hk ⊢; rw [z]; exact (r5 k hk).2.1
        · have hw := hW.1.2.2.2.2.1 q (by omega)
          rw [if_neg z] at hk ⊢; rw [r17 _ (by omega), a5.2 7 (by decide), us_ne _ _ _ (by decide)]; exact h6 q (by omega) k hk
      · rw [r22 6 (by decide), a5.1 6 (by decide), us_ne _ _ _ (by decide)]; exact h7
      · rw [r22 7 (by decide), a5.1 7 (by decide), us_ne _ _ _ (by decide)]; exact h8
      · rw [r23 25 (by decide), us_ne _ _ _ (by decide), a6.1 25 (by decide), us_app, if_neg (by decide)]; exact m2
      · rw [r23 26 (by decide), us_ne _ _ _ (by decide), a6.1 26 (by decide), us_app, if_neg (by decide)]; exact m3
      · show MM' 207 q = nI (if q = tP W then val else tS W q)
        have hq : q < tP W + 1 := hq
        rw [r20, us_app]
        by_cases z : q = tP W
        · rw [if_pos ⟨rfl, z⟩, if_pos z]
        · rw [if_neg (fun y => z y.2), if_neg z, a6.2 207 (by decide), us_ne _ _ _ (by decide)]; exact m4 q (by omega)
      · show MM' 208 q = nI (if q = tP W then n' else tW W q)
        have hq : q < tP W + 1 := hq
        by_cases z : q = tP W
        · rw [if_pos z, z]; exact r9
        · rw [if_neg z, r16 q z, us_ne _ _ _ (by decide), a6.2 208 (by decide), us_ne _ _ _ (by decide)]; exact m5 q (by omega)
      · show MM' 209 (7 * q + k) = nI (if q = tP W then wk' k else tK W q k)
        have hq : q < tP W + 1 := hq
        have hk : k < if q = tP W then n' else tW W q := hk
        by_cases z : q = tP W
        · rw [if_pos z] at hk ⊢; rw [z]; exact (r5 k hk).2.2
        · have hw := hW.1.2.2.2.2.1 q (by omega)
          rw [if_neg z] at hk ⊢; rw [r18 _ (by omega), us_ne _ _ _ (by decide), a6.2 209 (by decide), us_ne _ _ _ (by decide)]; exact m6 q (by omega) k hk
      · show tP W + 1 ≤ 5; omega
      · show (if q = tP W then val else tS W q) < 10
        have hq : q < tP W + 1 := hq
        by_cases z : q = tP W
        · rw [if_pos z]; omega
        · rw [if_neg z]; exact hW.1.2.2.2.1 q (by omega)
      · show 1 ≤ (if q = tP W then n' else tW W q) ∧ (if q = tP W then n' else tW W q) ≤ 7
        have hq : q < tP W + 1 := hq
        by_cases z : q = tP W
        · rw [if_pos z]; exact ⟨r3, r4⟩
        · rw [if_neg z]; exact hW.1.2.2.2.2.1 q (by omega)
      · show (if q = tP W then wk' k else tK W q k) < 10
        have hq : q < tP W + 1 := hq
        have hk : k < if q = tP W then n' else tW W q := hk
        by_cases z : q = tP W
        · rw [if_pos z] at hk ⊢; exact (r5 k hk).1
        · rw [if_neg z] at hk ⊢; exact hW.1.2.2.2.2.2 q (by omega) k hk
      · rw [r23 20 (by decide), us_ne _ _ _ (by decide), a6.1 20 (by decide), us_app, if_neg (by decide)]
    · right
      exact ⟨r, MC', MM', st', eC.trans r1, r2, r3, r4, eM.trans r5, r6, r7, sC1.tr r8, sM1.tr r9⟩
