/-! THE REFERENCE'S DIAGONAL: down, sideways, clean -/
theorem x_dw_ok {Rn Cn : Nat} (hR : Rn ≤ 48) (hC : Cn ≤ 48) {t i : Nat} {A : Nat → Nat → Int} {wo wo2 wo3 : Nat → Int64} (htc : t < Cn) (hti : t < i) (hi : i < Rn) (hD : x_DS Rn Cn t A wo wo2) (hz : ∀ a, t < a → a < i → wo2 (48 * a + t) = 0) (hw : (∀ a b, a < 48 → b < 48 → wo3 (48 * a + b) = if a = i ∧ t ≤ b ∧ b < Cn then wo2 (48 * i + b) - (wo2 (48 * i + t) / wo2 (48 * t + t)) * wo2 (48 * t + b) else wo2 (48 * a + b))) : x_DS Rn Cn t A wo wo3 ∧ (∀ a, t < a → a < i → wo3 (48 * a + t) = 0) ∧ wo3 (48 * t + t) = wo2 (48 * t + t) ∧ wo3 (48 * i + t) = wo2 (48 * i + t) - (wo2 (48 * i + t) / wo2 (48 * t + t)) * wo2 (48 * t + t) := by
  refine ⟨hD.rop hR hC hi hti htc _ hw, fun a h1 h2 => ?_, ?_, ?_⟩
  · rw [hw a t (by omega) (by omega), if_neg (by omega)]
    exact hz a h1 h2
  · rw [hw t t (by omega) (by omega), if_neg (by omega)]
  · rw [hw i t (by omega) (by omega), if_pos ⟨rfl, Nat.le_refl _, htc⟩]
theorem x_dw_ok2 {Rn Cn : Nat} (hR : Rn ≤ 48) (hC : Cn ≤ 48) {t i : Nat} {A : Nat → Nat → Int} {wo wo3 wo4 : Nat → Int64} (htc : t < Cn) (hti : t < i) (hi : i < Rn) (hD : x_DS Rn Cn t A wo wo3) (hz : ∀ a, t < a → a < i → wo3 (48 * a + t) = 0) (hn : ¬ wo3 (48 * i + t) = 0) (hl : (wo3 (48 * i + t)).toInt.natAbs < (wo3 (48 * t + t)).toInt.natAbs) (hw : ∀ p q, p < 48 → q < 48 → wo4 (48 * p + q) = x_swp wo3 i t 48 p q) : x_DS Rn Cn t A wo wo4 ∧ (∀ a, t < a → a < i → wo4 (48 * a + t) = 0) ∧ wo4 (48 * t + t) = wo3 (48 * i + t) := by
  have e : ∀ a b, a < 48 → b < 48 → wo4 (48 * a + b) = wo3 (48 * x_tw i t a + b) := fun a b ha hb => by rw [hw a b ha hb, x_swp_tw hb]
  refine ⟨hD.swp hR hC hi hti htc hn (Nat.le_of_lt hl) e, fun a h1 h2 => ?_, ?_⟩
  · rw [e a t (by omega) (by omega), x_tw_n (by omega) (by omega)]
    exact hz a h1 h2
  · rw [e t t (by omega) (by omega), x_tw_r]
theorem m_dw {c : Nat → mm_C} {has ke f cy sp e1 e2 e3 : Nat → Int32} {ma wo dv : Nat → Int64} {di tr : Int32} {Rn Cn : Nat} (hR : Rn ≤ 48) (hC : Cn ≤ 48) {t : Nat} {A : Nat → Nat → Int} (ht : t < Rn) (htc : t < Cn) (hD : x_DS Rn Cn t A wo wo) : mm_TC kM 90 [.ref 25, .int (nI t)] (kD c has ke f ma wo dv cy sp e1 e2 e3 (nI Rn) (nI Cn) di tr) (fun v h => v = none ∧ ∃ wo1, x_DS Rn Cn t A wo wo1 ∧ (∀ a, t < a → a < Rn → wo1 (48 * a + t) = 0) ∧ h = (kD c has ke f ma wo1 dv cy sp e1 e2 e3 (nI Rn) (nI Cn) di tr)) := by
  refine mm_TC.of (M := kq_90) rfl rfl ?_
  refine mm_T.s rfl rfl rfl (fun _ => rfl) ?_
  refine mm_T.s rfl rfl rfl (fun _ => rfl) ?_
  refine mm_T.s rfl rfl rfl (fun _ => rfl) ?_
  refine mm_T.ti _ (nI_1 t) ?_
  refine mm_T.s rfl rfl rfl (fun _ => rfl) ?_
  refine mm_T.up (n := Rn) (P := fun i L h => ∃ x2 y3 y4 y5 wo1, t < i ∧ x2 = nI i ∧ x_DS Rn Cn t A wo wo1 ∧ (∀ a, t < a → a < i → wo1 (48 * a + t) = 0) ∧ L = [some (.ref 25), some (.int (nI t)), some (.int x2), y3, y4, y5] ∧ h = (kD c has ke f ma wo1 dv cy sp e1 e2 e3 (nI Rn) (nI Cn) di tr)) ?_ ?_ (t + 1) ht _ _ ⟨_, _, _, _, _, by omega, rfl, hD, fun a h1 h2 => by omega, rfl, rfl⟩
  · skip
    rintro i _ _ hi ⟨x2, y3, y4, y5, wo1, hti, rfl, hD1, hz1, rfl, rfl⟩ K
    refine mm_T.s rfl rfl rfl (fun _ => rfl) ?_
    refine mm_T.s rfl rfl rfl (fun _ => rfl) ?_
    refine mm_T.gf rfl rfl rfl rfl rfl ?_
    refine mm_T.s rfl rfl rfl (fun _ => if_neg (nI_ge hi (by omega))) ?_
    refine mm_T.wf (P := fun m L h => ∃ y3 y4 y5 wo2, x_DS Rn Cn t A wo wo2 ∧ (∀ a, t < a → a < i → wo2 (48 * a + t) = 0) ∧ m = x_me (wo2 (48 * i + t)) (wo2 (48 * t + t)) ∧ L = [some (.ref 25), some (.int (nI t)), some (.int (nI i)), y3, y4, y5] ∧ h = (kD c has ke f ma wo2 dv cy sp e1 e2 e3 (nI Rn) (nI Cn) di tr)) ?_ _ _ _ ⟨_, _, _, _, hD1, hz1, rfl, rfl, rfl⟩
    rintro m _ _ ⟨y3, y4, y5, wo2, hD2, hz2, rfl, rfl, rfl⟩ K2
    refine mm_T.s rfl rfl rfl (fun _ => rfl) ?_
    refine mm_T.gf rfl rfl rfl rfl rfl ?_
    refine mm_T.s rfl rfl rfl (fun _ => rfl) ?_
    refine mm_T.s rfl rfl rfl (fun _ => rfl) ?_
    refine mm_T.s rfl rfl rfl (fun _ => rfl) ?_
    refine mm_T.s rfl rfl rfl (fun _ => rfl) ?_
    refine mm_T.s rfl rfl rfl (fun _ => rfl) ?_
    refine mm_T.ti _ (x_84 _ _) ?_
    refine mm_T.laN rfl rfl rfl (by omega) (by decide) rfl ?_
    refine mm_T.s rfl rfl rfl (fun _ => rfl) ?_
    refine mm_T.s rfl rfl rfl (fun _ => rfl) ?_
    refine mm_T.cz rfl rfl (fun hb25 => ?_) (fun hb25 => ?_)
    · skip
      have hz5 : ∀ a, t < a → a < i + 1 → wo2 (48 * a + t) = 0 := fun a h1 h2 => by
        by_cases e : a = i
        · rw [e]
          exact x_lz hb25
        · exact hz2 a h1 (by omega)
      refine mm_T.s rfl rfl rfl (fun _ => rfl) ?_
      refine mm_T.s rfl rfl rfl (fun _ => rfl) ?_
      exact K _ _ ⟨_, _, _, _, _, by omega, nI_1 i, hD2, hz5, rfl, rfl⟩
    · skip
      refine mm_T.s rfl rfl rfl (fun _ => rfl) ?_
      refine mm_T.gf rfl rfl rfl rfl rfl ?_
      refine mm_T.s rfl rfl rfl (fun _ => rfl) ?_
      refine mm_T.s rfl rfl rfl (fun _ => rfl) ?_
      refine mm_T.s rfl rfl rfl (fun _ => rfl) ?_
      refine mm_T.s rfl rfl rfl (fun _ => rfl) ?_
      refine mm_T.s rfl rfl rfl (fun _ => rfl) ?_
      refine mm_T.ti _ (x_84 _ _) ?_
      refine mm_T.laN rfl rfl rfl (by omega) (by decide) rfl ?_
      refine mm_T.s rfl rfl rfl (fun _ => rfl) ?_
      refine mm_T.gf rfl rfl rfl rfl rfl ?_
      refine mm_T.s rfl rfl rfl (fun _ => rfl) ?_
      refine mm_T.s rfl rfl rfl (fun _ => rfl) ?_
      refine mm_T.s rfl rfl rfl (fun _ => rfl) ?_
      refine mm_T.s rfl rfl rfl (fun _ => rfl) ?_
      refine mm_T.s rfl rfl rfl (fun _ => rfl) ?_
      refine mm_T.ti _ (x_84 _ _) ?_
      refine mm_T.laN rfl rfl rfl (by omega) (by decide) rfl ?_
      refine mm_T.s rfl rfl rfl (fun _ => if_neg hD2.2.2.1) ?_
      refine mm_T.s rfl rfl rfl (fun _ => rfl) ?_
      refine mm_T.s rfl rfl rfl (fun _ => rfl) ?_
      refine mm_T.s rfl rfl rfl (fun _ => rfl) ?_
      refine mm_T.up (n := Cn) (P := fun i1 L h => ∃ x5 wo3, t ≤ i1 ∧ x5 = nI i1 ∧ (∀ a b, a < 48 → b < 48 → wo3 (48 * a + b) = if a = i ∧ t ≤ b ∧ b < i1 then wo2 (48 * i + b) - (wo2 (48 * i + t) / wo2 (48 * t + t)) * wo2 (48 * t + b) else wo2 (48 * a + b)) ∧ L = [some (.ref 25), some (.int (nI t)), some (.int (nI i)), some (.long (wo2 (48 * i + t) / wo2 (48 * t + t))), none, some (.int x5)] ∧ h = (kD c has ke f ma wo3 dv cy sp e1 e2 e3 (nI Rn) (nI Cn) di tr)) ?_ ?_ t (Nat.le_of_lt htc) _ _ ⟨_, _, Nat.le_refl _, rfl, fun a b _ _ => by rw [if_neg (by omega)], rfl, rfl⟩
      · skip
        rintro j _ _ hj ⟨x5, wo3, htj, rfl, hw, rfl, rfl⟩ K3
        refine mm_T.s rfl rfl rfl (fun _ => rfl) ?_
        refine mm_T.s rfl rfl rfl (fun _ => rfl) ?_
        refine mm_T.gf rfl rfl rfl rfl rfl ?_
        refine mm_T.s rfl rfl rfl (fun _ => if_neg (nI_ge hj (by omega))) ?_
        refine mm_T.s rfl rfl rfl (fun _ => rfl) ?_
        refine mm_T.gf rfl rfl rfl rfl rfl ?_
        refine mm_T.s rfl rfl rfl (fun _ => rfl) ?_
        refine mm_T.s rfl rfl rfl (fun _ => rfl) ?_
        refine mm_T.s rfl rfl rfl (fun _ => rfl) ?_
        refine mm_T.s rfl rfl rfl (fun _ => rfl) ?_
        refine mm_T.s rfl rfl rfl (fun _ => rfl) ?_
        refine mm_T.ti _ (x_84 _ _) ?_
        refine mm_T.s rfl rfl rfl (fun _ => rfl) ?_
        refine mm_T.gf rfl rfl rfl rfl rfl ?_
        refine mm_T.s rfl rfl rfl (fun _ => rfl) ?_
        refine mm_T.s rfl rfl rfl (fun _ => rfl) ?_
        refine mm_T.s rfl rfl rfl (fun _ => rfl) ?_
        refine mm_T.s rfl rfl rfl (fun _ => rfl) ?_
        refine mm_T.s rfl rfl rfl (fun _ => rfl) ?_
        refine mm_T.ti _ (x_84 _ _) ?_
        refine mm_T.laN rfl rfl rfl (by omega) (by decide) rfl ?_
        refine mm_T.s rfl rfl rfl (fun _ => rfl) ?_
        refine mm_T.s rfl rfl rfl (fun _ => rfl) ?_
        refine mm_T.gf rfl rfl rfl rfl rfl ?_
        refine mm_T.s rfl rfl rfl (fun _ => rfl) ?_
        refine mm_T.s rfl rfl rfl (fun _ => rfl) ?_
        refine mm_T.s rfl rfl rfl (fun _ => rfl) ?_
        refine mm_T.s rfl rfl rfl (fun _ => rfl) ?_
        refine mm_T.s rfl rfl rfl (fun _ => rfl) ?_
        refine mm_T.ti _ (x_84 _ _) ?_
        refine mm_T.laN rfl rfl rfl (by omega) (by decide) rfl ?_
        refine mm_T.s rfl rfl rfl (fun _ => rfl) ?_
        refine mm_T.s rfl rfl rfl (fun _ => rfl) ?_
        refine mm_T.lsN rfl rfl rfl (by omega) (by decide) rfl ?_
        refine mm_T.s rfl rfl rfl (fun _ => rfl) ?_
        refine mm_T.s rfl rfl rfl (fun _ => rfl) ?_
        exact K3 _ _ ⟨_, _, Nat.le_succ_of_le htj, nI_1 j, x_rp_s (by omega) (by omega) (by omega) (by omega) htj hw, rfl, rfl⟩
      · skip
        rintro _ _ ⟨x5, wo3, htj, rfl, hw, rfl, rfl⟩
        obtain ⟨hD3, hz3, hp3, hr3⟩ := x_dw_ok hR hC htc hti hi hD2 hz2 hw
        refine mm_T.s rfl rfl rfl (fun _ => rfl) ?_
        refine mm_T.s rfl rfl rfl (fun _ => rfl) ?_
        refine mm_T.gf rfl rfl rfl rfl rfl ?_
        refine mm_T.s rfl rfl rfl (fun _ => if_pos (nI_le (Nat.le_refl _) (by omega))) ?_
        refine mm_T.s rfl rfl rfl (fun _ => rfl) ?_
        refine mm_T.gf rfl rfl rfl rfl rfl ?_
        refine mm_T.s rfl rfl rfl (fun _ => rfl) ?_
        refine mm_T.s rfl rfl rfl (fun _ => rfl) ?_
        refine mm_T.s rfl rfl rfl (fun _ => rfl) ?_
        refine mm_T.s rfl rfl rfl (fun _ => rfl) ?_
        refine mm_T.s rfl rfl rfl (fun _ => rfl) ?_
        refine mm_T.ti _ (x_84 _ _) ?_
        refine mm_T.laN rfl rfl rfl (by omega) (by decide) rfl ?_
        refine mm_T.s rfl rfl rfl (fun _ => rfl) ?_
        refine mm_T.s rfl rfl rfl (fun _ => rfl) ?_
        refine mm_T.cz rfl rfl (fun hb122 => ?_) (fun hb122 => ?_)
        · skip
          have hm := x_me_0 (w := wo2 (48 * i + t)) (x_lnz hb25) hp3 (x_lz hb122)
          have hD4 := hD3
          have hz4 := hz3
          refine mm_T.s rfl rfl rfl (fun _ => rfl) ?_
          exact K2 _ _ _ hm ⟨_, _, _, _, hD4, hz4, rfl, rfl, rfl⟩
        · skip
          have hlt : (wo3 (48 * i + t)).toInt.natAbs < (wo3 (48 * t + t)).toInt.natAbs := by
            rw [hr3, hp3]
            exact x_rem_lt _ hD2.2.2.1
          refine mm_T.s rfl rfl rfl (fun _ => rfl) ?_
          refine mm_T.s rfl rfl rfl (fun _ => rfl) ?_
          refine mm_T.s rfl rfl rfl (fun _ => rfl) ?_
          refine mm_T.ivw rfl rfl rfl rfl rfl rfl (m_ex (by omega) (by omega)) ?_
          rintro _ _ ⟨rfl, wo4, hw4, rfl⟩
          obtain ⟨hD4, hz4, hp4⟩ := x_dw_ok2 hR hC htc hti hi hD3 hz3 (x_lnz hb122) hlt hw4
          have hm := x_me_1 (w := wo2 (48 * i + t)) (x_lnz hb25) (p' := wo4 (48 * t + t)) (p := wo2 (48 * t + t)) (by rw [hp4, ← hp3]; exact hlt) (wo4 (48 * i + t))
          refine mm_T.s rfl rfl rfl (fun _ => rfl) ?_
          exact K2 _ _ _ hm ⟨_, _, _, _, hD4, hz4, rfl, rfl, rfl⟩
  · skip
    rintro _ _ ⟨x2, y3, y4, y5, wo1, hti, rfl, hD1, hz1, rfl, rfl⟩
    refine mm_T.s rfl rfl rfl (fun _ => rfl) ?_
    refine mm_T.s rfl rfl rfl (fun _ => rfl) ?_
    refine mm_T.gf rfl rfl rfl rfl rfl ?_
    refine mm_T.s rfl rfl rfl (fun _ => if_pos (nI_le (Nat.le_refl _) (by omega))) ?_
    exact mm_T.ret rfl rfl rfl (⟨rfl, _, hD1, hz1, rfl⟩)
/-- column t as it was, or a smaller pivot -/
def x_sd (R t : Nat) (wo wo1 : Nat → Int64) : Prop := (wo1 (48 * t + t)).toInt.natAbs < (wo (48 * t + t)).toInt.natAbs ∨ (wo1 (48 * t + t) = wo (48 * t + t) ∧ ∀ a, t < a → a < R → wo1 (48 * a + t) = wo (48 * a + t))
theorem x_sd_ok {Rn Cn : Nat} (hR : Rn ≤ 48) (hC : Cn ≤ 48) {t j : Nat} {A : Nat → Nat → Int} {wo wo2 wo3 : Nat → Int64} (ht : t < Rn) (htj : t < j) (hj : j < Cn) (hD : x_DS Rn Cn t A wo wo2) (hs : x_sd Rn t wo wo2) (hz : ∀ b, t < b → b < j → wo2 (48 * t + b) = 0) (hw : (∀ a b, a < 48 → b < 48 → wo3 (48 * a + b) = if t ≤ a ∧ a < Rn ∧ b = j then wo2 (48 * a + j) - (wo2 (48 * t + j) / wo2 (48 * t + t)) * wo2 (48 * a + t) else wo2 (48 * a + b))) : x_DS Rn Cn t A wo wo3 ∧ x_sd Rn t wo wo3 ∧ (∀ b, t < b → b < j → wo3 (48 * t + b) = 0) ∧ wo3 (48 * t + t) = wo2 (48 * t + t) ∧ wo3 (48 * t + j) = wo2 (48 * t + j) - (wo2 (48 * t + j) / wo2 (48 * t + t)) * wo2 (48 * t + t) := by
  have e : ∀ a, a < Rn → wo3 (48 * a + t) = wo2 (48 * a + t) := fun a ha => by rw [hw a t (by omega) (by omega), if_neg (by omega)]
  refine ⟨hD.cop hR hC hj htj ht _ hw, ?_, fun b h1 h2 => ?_, e t ht, ?_⟩
  · unfold x_sd
    rw [e t ht]
    refine hs.imp_right (fun q => ⟨q.1, fun a h1 h2 => ?_⟩)
    rw [e a h2]
    exact q.2 a h1 h2
  · rw [hw t b (by omega) (by omega), if_neg (by omega)]
    exact hz b h1 h2
  · rw [hw t j (by omega) (by omega), if_pos ⟨Nat.le_refl _, ht, rfl⟩]
theorem x_sd_ok2 {Rn Cn : Nat} (hR : Rn ≤ 48) (hC : Cn ≤ 48) {t j : Nat} {A : Nat → Nat → Int} {wo wo2 wo3 : Nat → Int64} (ht : t < Rn) (htj : t < j) (hj : j < Cn) (hD : x_DS Rn Cn t A wo wo2) (hz : ∀ b, t < b → b < j → wo2 (48 * t + b) = 0) (hn : ¬ wo2 (48 * t + j) - (wo2 (48 * t + j) / wo2 (48 * t + t)) * wo2 (48 * t + t) = 0) (hw : (∀ a b, a < 48 → b < 48 → wo3 (48 * a + b) = x_cv wo2 (wo2 (48 * t + j) / wo2 (48 * t + t)) t j Rn a b)) : x_DS Rn Cn t A wo wo3 ∧ x_sd Rn t wo wo3 ∧ (∀ b, t < b → b < j → wo3 (48 * t + b) = 0) ∧ (wo3 (48 * t + t)).toInt.natAbs < (wo2 (48 * t + t)).toInt.natAbs := by
  have hp : wo3 (48 * t + t) = wo2 (48 * t + j) - (wo2 (48 * t + j) / wo2 (48 * t + t)) * wo2 (48 * t + t) := by
    rw [hw t t (by omega) (by omega)]
    unfold x_cv
    rw [if_pos ⟨Nat.le_refl _, ht⟩, if_neg (by omega), if_pos rfl]
  have hlt : (wo3 (48 * t + t)).toInt.natAbs < (wo2 (48 * t + t)).toInt.natAbs := by
    rw [hp]
    exact x_rem_lt _ hD.2.2.1
  obtain ⟨wo1, hw1⟩ : ∃ wo1 : Nat → Int64, ∀ a b, a < 48 → b < 48 → wo1 (48 * a + b) = if t ≤ a ∧ a < Rn ∧ b = j then wo2 (48 * a + j) - (wo2 (48 * t + j) / wo2 (48 * t + t)) * wo2 (48 * a + t) else wo2 (48 * a + b) := by
    refine ⟨fun x => if t ≤ x / 48 ∧ x / 48 < Rn ∧ x % 48 = j then wo2 (48 * (x / 48) + j) - (wo2 (48 * t + j) / wo2 (48 * t + t)) * wo2 (48 * (x / 48) + t) else wo2 x, fun a b ha hb => ?_⟩
    show (if t ≤ (48 * a + b) / 48 ∧ (48 * a + b) / 48 < Rn ∧ (48 * a + b) % 48 = j then wo2 (48 * ((48 * a + b) / 48) + j) - (wo2 (48 * t + j) / wo2 (48 * t + t)) * wo2 (48 * ((48 * a + b) / 48) + t) else wo2 (48 * a + b)) = _
    rw [show (48 * a + b) / 48 = a by omega, show (48 * a + b) % 48 = b by omega]
  have hD1 := hD.cop hR hC hj htj ht _ hw1
  have hj1 := hw1 t j (by omega) (by omega)
  rw [if_pos ⟨Nat.le_refl _, ht, rfl⟩] at hj1
  have ht1 := hw1 t t (by omega) (by omega)
  rw [if_neg (by omega)] at ht1
  refine ⟨hD1.csw hR hC hj htj ht (by rw [hj1]; exact hn) (by rw [hj1, ht1, ← hp]; exact Nat.le_of_lt hlt) (fun a b ha hb => ?_), Or.inl (Nat.lt_of_lt_of_le hlt hD.2.2.2.1), fun b h1 h2 => ?_, hlt⟩
  · rw [hw a b ha hb]
    unfold x_cv
    by_cases c : t ≤ a ∧ a < Rn
    · rw [if_pos c, if_pos c]
      by_cases c1 : b = j
      · rw [if_pos c1, c1, x_tw_l, hw1 a t ha (by omega), if_neg (by omega)]
      · rw [if_neg c1]
        by_cases c2 : b = t
        · rw [if_pos c2, c2, x_tw_r, hw1 a j ha (by omega), if_pos ⟨c.1, c.2, rfl⟩]
        · rw [if_neg c2, x_tw_n c1 c2, hw1 a b ha hb, if_neg (by omega)]
    · rw [if_neg c, if_neg c, hw1 a b ha hb, if_neg (by omega)]
  · rw [hw t b (by omega) (by omega)]
    unfold x_cv
    rw [if_pos ⟨Nat.le_refl _, ht⟩, if_neg (by omega), if_neg (by omega)]
    exact hz b h1 h2
theorem m_sd {c : Nat → mm_C} {has ke f cy sp e1 e2 e3 : Nat → Int32} {ma wo dv : Nat → Int64} {di tr : Int32} {Rn Cn : Nat} (hR : Rn ≤ 48) (hC : Cn ≤ 48) {t : Nat} {A : Nat → Nat → Int} (ht : t < Rn) (htc : t < Cn) (hD : x_DS Rn Cn t A wo wo) : mm_TC kM 91 [.ref 25, .int (nI t)] (kD c has ke f ma wo dv cy sp e1 e2 e3 (nI Rn) (nI Cn) di tr) (fun v h => v = none ∧ ∃ wo1, x_DS Rn Cn t A wo wo1 ∧ x_sd Rn t wo wo1 ∧ (∀ b, t < b → b < Cn → wo1 (48 * t + b) = 0) ∧ h = (kD c has ke f ma wo1 dv cy sp e1 e2 e3 (nI Rn) (nI Cn) di tr)) := by
  refine mm_TC.of (M := kq_91) rfl rfl ?_
  refine mm_T.s rfl rfl rfl (fun _ => rfl) ?_
  refine mm_T.s rfl rfl rfl (fun _ => rfl) ?_
  refine mm_T.s rfl rfl rfl (fun _ => rfl) ?_
  refine mm_T.ti _ (nI_1 t) ?_
  refine mm_T.s rfl rfl rfl (fun _ => rfl) ?_
  refine mm_T.up (n := Cn) (P := fun i L h => ∃ x2 y3 y4 y5 y6 y7 y8 wo1, t < i ∧ x2 = nI i ∧ x_DS Rn Cn t A wo wo1 ∧ x_sd Rn t wo wo1 ∧ (∀ b, t < b → b < i → wo1 (48 * t + b) = 0) ∧ L = [some (.ref 25), some (.int (nI t)), some (.int x2), y3, y4, y5, y6, y7, y8] ∧ h = (kD c has ke f ma wo1 dv cy sp e1 e2 e3 (nI Rn) (nI Cn) di tr)) ?_ ?_ (t + 1) htc _ _ ⟨_, _, _, _, _, _, _, _, by omega, rfl, hD, Or.inr ⟨rfl, fun a _ _ => rfl⟩, fun b h1 h2 => by omega, rfl, rfl⟩
  · skip
    rintro j _ _ hj ⟨x2, y3, y4, y5, y6, y7, y8, wo1, htj, rfl, hD1, hs1, hz1, rfl, rfl⟩ K
    refine mm_T.s rfl rfl rfl (fun _ => rfl) ?_
    refine mm_T.s rfl rfl rfl (fun _ => rfl) ?_
    refine mm_T.gf rfl rfl rfl rfl rfl ?_
    refine mm_T.s rfl rfl rfl (fun _ => if_neg (nI_ge hj (by omega))) ?_
    refine mm_T.wf (P := fun m L h => ∃ y3 y4 y5 y6 y7 y8 wo2, x_DS Rn Cn t A wo wo2 ∧ x_sd Rn t wo wo2 ∧ (∀ b, t < b → b < j → wo2 (48 * t + b) = 0) ∧ m = x_me (wo2 (48 * t + j)) (wo2 (48 * t + t)) ∧ L = [some (.ref 25), some (.int (nI t)), some (.int (nI j)), y3, y4, y5, y6, y7, y8] ∧ h = (kD c has ke f ma wo2 dv cy sp e1 e2 e3 (nI Rn) (nI Cn) di tr)) ?_ _ _ _ ⟨_, _, _, _, _, _, _, hD1, hs1, hz1, rfl, rfl, rfl⟩
    rintro m _ _ ⟨y3, y4, y5, y6, y7, y8, wo2, hD2, hs2, hz2, rfl, rfl, rfl⟩ K2
    refine mm_T.s rfl rfl rfl (fun _ => rfl) ?_
    refine mm_T.gf rfl rfl rfl rfl rfl ?_
    refine mm_T.s rfl rfl rfl (fun _ => rfl) ?_
    refine mm_T.s rfl rfl rfl (fun _ => rfl) ?_
    refine mm_T.s rfl rfl rfl (fun _ => rfl) ?_
    refine mm_T.s rfl rfl rfl (fun _ => rfl) ?_
    refine mm_T.s rfl rfl rfl (fun _ => rfl) ?_
    refine mm_T.ti _ (x_84 _ _) ?_
    refine mm_T.laN rfl rfl rfl (by omega) (by decide) rfl ?_
    refine mm_T.s rfl rfl rfl (fun _ => rfl) ?_
    refine mm_T.s rfl rfl rfl (fun _ => rfl) ?_
    refine mm_T.cz rfl rfl (fun hb25 => ?_) (fun hb25 => ?_)
    · skip
      have hz5 : ∀ b, t < b → b < j + 1 → wo2 (48 * t + b) = 0 := fun b h1 h2 => by
        by_cases e : b = j
        · rw [e]
          exact x_lz hb25
        · exact hz2 b h1 (by omega)
      refine mm_T.s rfl rfl rfl (fun _ => rfl) ?_
      refine mm_T.s rfl rfl rfl (fun _ => rfl) ?_
      exact K _ _ ⟨_, _, _, _, _, _, _, _, by omega, nI_1 j, hD2, hs2, hz5, rfl, rfl⟩
    · skip
      refine mm_T.s rfl rfl rfl (fun _ => rfl) ?_
      refine mm_T.gf rfl rfl rfl rfl rfl ?_
      refine mm_T.s rfl rfl rfl (fun _ => rfl) ?_
      refine mm_T.s rfl rfl rfl (fun _ => rfl) ?_
      refine mm_T.s rfl rfl rfl (fun _ => rfl) ?_
      refine mm_T.s rfl rfl rfl (fun _ => rfl) ?_
      refine mm_T.s rfl rfl rfl (fun _ => rfl) ?_
      refine mm_T.ti _ (x_84 _ _) ?_
      refine mm_T.laN rfl rfl rfl (by omega) (by decide) rfl ?_
      refine mm_T.s rfl rfl rfl (fun _ => rfl) ?_
      refine mm_T.gf rfl rfl rfl rfl rfl ?_
      refine mm_T.s rfl rfl rfl (fun _ => rfl) ?_
      refine mm_T.s rfl rfl rfl (fun _ => rfl) ?_
      refine mm_T.s rfl rfl rfl (fun _ => rfl) ?_
      refine mm_T.s rfl rfl rfl (fun _ => rfl) ?_
      refine mm_T.s rfl rfl rfl (fun _ => rfl) ?_
      refine mm_T.ti _ (x_84 _ _) ?_
      refine mm_T.laN rfl rfl rfl (by omega) (by decide) rfl ?_
      refine mm_T.s rfl rfl rfl (fun _ => if_neg hD2.2.2.1) ?_
      refine mm_T.s rfl rfl rfl (fun _ => rfl) ?_
      refine mm_T.s rfl rfl rfl (fun _ => rfl) ?_
      refine mm_T.gf rfl rfl rfl rfl rfl ?_
      refine mm_T.s rfl rfl rfl (fun _ => rfl) ?_
      refine mm_T.s rfl rfl rfl (fun _ => rfl) ?_
      refine mm_T.s rfl rfl rfl (fun _ => rfl) ?_
      refine mm_T.s rfl rfl rfl (fun _ => rfl) ?_
      refine mm_T.s rfl rfl rfl (fun _ => rfl) ?_
      refine mm_T.ti _ (x_84 _ _) ?_
      refine mm_T.laN rfl rfl rfl (by omega) (by decide) rfl ?_
      refine mm_T.s rfl rfl rfl (fun _ => rfl) ?_
      refine mm_T.gf rfl rfl rfl rfl rfl ?_
      refine mm_T.s rfl rfl rfl (fun _ => rfl) ?_
      refine mm_T.s rfl rfl rfl (fun _ => rfl) ?_
      refine mm_T.s rfl rfl rfl (fun _ => rfl) ?_
      refine mm_T.s rfl rfl rfl (fun _ => rfl) ?_
      refine mm_T.s rfl rfl rfl (fun _ => rfl) ?_
      refine mm_T.ti _ (x_84 _ _) ?_
      refine mm_T.laN rfl rfl rfl (by omega) (by decide) rfl ?_
      refine mm_T.s rfl rfl rfl (fun _ => if_neg hD2.2.2.1) ?_
      refine mm_T.s rfl rfl rfl (fun _ => rfl) ?_
      refine mm_T.s rfl rfl rfl (fun _ => rfl) ?_
      refine mm_T.cz rfl rfl (fun hb77 => ?_) (fun hb77 => ?_)
      · skip
        refine mm_T.s rfl rfl rfl (fun _ => rfl) ?_
        refine mm_T.s rfl rfl rfl (fun _ => rfl) ?_
        refine mm_T.s rfl rfl rfl (fun _ => rfl) ?_
        refine mm_T.s rfl rfl rfl (fun _ => rfl) ?_
        refine mm_T.up (n := Rn) (P := fun i L h => ∃ x6 y7 y8 wo3, t ≤ i ∧ x6 = nI i ∧ (∀ a b, a < 48 → b < 48 → wo3 (48 * a + b) = if t ≤ a ∧ a < i ∧ b = j then wo2 (48 * a + j) - (wo2 (48 * t + j) / wo2 (48 * t + t)) * wo2 (48 * a + t) else wo2 (48 * a + b)) ∧ L = [some (.ref 25), some (.int (nI t)), some (.int (nI j)), some (.long (wo2 (48 * t + j) / wo2 (48 * t + t))), none, some (.int 0), some (.int x6), y7, y8] ∧ h = (kD c has ke f ma wo3 dv cy sp e1 e2 e3 (nI Rn) (nI Cn) di tr)) ?_ ?_ t (Nat.le_of_lt ht) _ _ ⟨_, _, _, _, Nat.le_refl _, rfl, fun a b _ _ => by rw [if_neg (by omega)], rfl, rfl⟩
        · skip
          rintro n _ _ hn ⟨x6, y7, y8, wo3, htn, rfl, hw, rfl, rfl⟩ K3
          refine mm_T.s rfl rfl rfl (fun _ => rfl) ?_
          refine mm_T.s rfl rfl rfl (fun _ => rfl) ?_
          refine mm_T.gf rfl rfl rfl rfl rfl ?_
          refine mm_T.s rfl rfl rfl (fun _ => if_neg (nI_ge hn (by omega))) ?_
          refine mm_T.s rfl rfl rfl (fun _ => rfl) ?_
          refine mm_T.gf rfl rfl rfl rfl rfl ?_
          refine mm_T.s rfl rfl rfl (fun _ => rfl) ?_
          refine mm_T.s rfl rfl rfl (fun _ => rfl) ?_
          refine mm_T.s rfl rfl rfl (fun _ => rfl) ?_
          refine mm_T.s rfl rfl rfl (fun _ => rfl) ?_
          refine mm_T.s rfl rfl rfl (fun _ => rfl) ?_
          refine mm_T.ti _ (x_84 _ _) ?_
          refine mm_T.laN rfl rfl rfl (by omega) (by decide) rfl ?_
          refine mm_T.s rfl rfl rfl (fun _ => rfl) ?_
          refine mm_T.s rfl rfl rfl (fun _ => rfl) ?_
          refine mm_T.gf rfl rfl rfl rfl rfl ?_
          refine mm_T.s rfl rfl rfl (fun _ => rfl) ?_
          refine mm_T.s rfl rfl rfl (fun _ => rfl) ?_
          refine mm_T.s rfl rfl rfl (fun _ => rfl) ?_
          refine mm_T.s rfl rfl rfl (fun _ => rfl) ?_
          refine mm_T.s rfl rfl rfl (fun _ => rfl) ?_
          refine mm_T.ti _ (x_84 _ _) ?_
          refine mm_T.laN rfl rfl rfl (by omega) (by decide) rfl ?_
          refine mm_T.s rfl rfl rfl (fun _ => rfl) ?_
          refine mm_T.s rfl rfl rfl (fun _ => rfl) ?_
          refine mm_T.s rfl rfl rfl (fun _ => rfl) ?_
          refine mm_T.s rfl rfl rfl (fun _ => rfl) ?_
          refine mm_T.gf rfl rfl rfl rfl rfl ?_
          refine mm_T.s rfl rfl rfl (fun _ => rfl) ?_
          refine mm_T.s rfl rfl rfl (fun _ => rfl) ?_
          refine mm_T.s rfl rfl rfl (fun _ => rfl) ?_
          refine mm_T.s rfl rfl rfl (fun _ => rfl) ?_
          refine mm_T.s rfl rfl rfl (fun _ => rfl) ?_
          refine mm_T.ti _ (x_84 _ _) ?_
          refine mm_T.s rfl rfl rfl (fun _ => rfl) ?_
          refine mm_T.s rfl rfl rfl (fun _ => rfl) ?_
          refine mm_T.s rfl rfl rfl (fun _ => rfl) ?_
          refine mm_T.lsN rfl rfl rfl (by omega) (by decide) rfl ?_
          refine mm_T.s rfl rfl rfl (fun _ => rfl) ?_
          refine mm_T.gf rfl rfl rfl rfl rfl ?_
          refine mm_T.s rfl rfl rfl (fun _ => rfl) ?_
          refine mm_T.s rfl rfl rfl (fun _ => rfl) ?_
          refine mm_T.s rfl rfl rfl (fun _ => rfl) ?_
          refine mm_T.s rfl rfl rfl (fun _ => rfl) ?_
          refine mm_T.s rfl rfl rfl (fun _ => rfl) ?_
          refine mm_T.ti _ (x_84 _ _) ?_
          refine mm_T.s rfl rfl rfl (fun _ => rfl) ?_
          refine mm_T.s rfl rfl rfl (fun _ => rfl) ?_
          refine mm_T.s rfl rfl rfl (fun _ => rfl) ?_
          refine mm_T.gf rfl rfl rfl rfl rfl ?_
          refine mm_T.s rfl rfl rfl (fun _ => rfl) ?_
          refine mm_T.s rfl rfl rfl (fun _ => rfl) ?_
          refine mm_T.s rfl rfl rfl (fun _ => rfl) ?_
          refine mm_T.s rfl rfl rfl (fun _ => rfl) ?_
          refine mm_T.s rfl rfl rfl (fun _ => rfl) ?_
          refine mm_T.ti _ (x_84 _ _) ?_
          refine mm_T.laN rfl rfl rfl (by omega) (by decide) rfl ?_
          refine mm_T.lsN rfl rfl rfl (by omega) (by decide) rfl ?_
          refine mm_T.s rfl rfl rfl (fun _ => rfl) ?_
          refine mm_T.s rfl rfl rfl (fun _ => rfl) ?_
          exact K3 _ _ ⟨_, _, _, _, Nat.le_succ_of_le htn, nI_1 n, x_c0_s (by omega) (by omega) (by omega) (by omega) htn hw, rfl, rfl⟩
        · skip
          rintro _ _ ⟨x6, y7, y8, wo3, htn, rfl, hw, rfl, rfl⟩
          obtain ⟨hD3, hs3, hz3, hp3, hr3⟩ := x_sd_ok hR hC ht htj hj hD2 hs2 hz2 hw
          have hm := x_me_0 (w := wo2 (48 * t + j)) (x_lnz hb25) hp3 (hr3.trans (x_lz hb77))
          refine mm_T.s rfl rfl rfl (fun _ => rfl) ?_
          refine mm_T.s rfl rfl rfl (fun _ => rfl) ?_
          refine mm_T.gf rfl rfl rfl rfl rfl ?_
          refine mm_T.s rfl rfl rfl (fun _ => if_pos (nI_le (Nat.le_refl _) (by omega))) ?_
          refine mm_T.s rfl rfl rfl (fun _ => rfl) ?_
          exact K2 _ _ _ hm ⟨_, _, _, _, _, _, _, hD3, hs3, hz3, rfl, rfl, rfl⟩
      · skip
        refine mm_T.s rfl rfl rfl (fun _ => rfl) ?_
        refine mm_T.s rfl rfl rfl (fun _ => rfl) ?_
        refine mm_T.s rfl rfl rfl (fun _ => rfl) ?_
        refine mm_T.s rfl rfl rfl (fun _ => rfl) ?_
        refine mm_T.s rfl rfl rfl (fun _ => rfl) ?_
        refine mm_T.up (n := Rn) (P := fun i L h => ∃ x6 y7 y8 wo3, t ≤ i ∧ x6 = nI i ∧ (∀ a b, a < 48 → b < 48 → wo3 (48 * a + b) = x_cv wo2 (wo2 (48 * t + j) / wo2 (48 * t + t)) t j i a b) ∧ L = [some (.ref 25), some (.int (nI t)), some (.int (nI j)), some (.long (wo2 (48 * t + j) / wo2 (48 * t + t))), none, some (.int 1), some (.int x6), y7, y8] ∧ h = (kD c has ke f ma wo3 dv cy sp e1 e2 e3 (nI Rn) (nI Cn) di tr)) ?_ ?_ t (Nat.le_of_lt ht) _ _ ⟨_, _, _, _, Nat.le_refl _, rfl, fun a b _ _ => by unfold x_cv; rw [if_neg (by omega)], rfl, rfl⟩
        · skip
          rintro n _ _ hn ⟨x6, y7, y8, wo3, htn, rfl, hw, rfl, rfl⟩ K3
          refine mm_T.s rfl rfl rfl (fun _ => rfl) ?_
          refine mm_T.s rfl rfl rfl (fun _ => rfl) ?_
          refine mm_T.gf rfl rfl rfl rfl rfl ?_
          refine mm_T.s rfl rfl rfl (fun _ => if_neg (nI_ge hn (by omega))) ?_
          refine mm_T.s rfl rfl rfl (fun _ => rfl) ?_
          refine mm_T.gf rfl rfl rfl rfl rfl ?_
          refine mm_T.s rfl rfl rfl (fun _ => rfl) ?_
          refine mm_T.s rfl rfl rfl (fun _ => rfl) ?_
          refine mm_T.s rfl rfl rfl (fun _ => rfl) ?_
          refine mm_T.s rfl rfl rfl (fun _ => rfl) ?_
          refine mm_T.s rfl rfl rfl (fun _ => rfl) ?_
          refine mm_T.ti _ (x_84 _ _) ?_
          refine mm_T.laN rfl rfl rfl (by omega) (by decide) rfl ?_
          refine mm_T.s rfl rfl rfl (fun _ => rfl) ?_
          refine mm_T.s rfl rfl rfl (fun _ => rfl) ?_
          refine mm_T.gf rfl rfl rfl rfl rfl ?_
          refine mm_T.s rfl rfl rfl (fun _ => rfl) ?_
          refine mm_T.s rfl rfl rfl (fun _ => rfl) ?_
          refine mm_T.s rfl rfl rfl (fun _ => rfl) ?_
          refine mm_T.s rfl rfl rfl (fun _ => rfl) ?_
          refine mm_T.s rfl rfl rfl (fun _ => rfl) ?_
          refine mm_T.ti _ (x_84 _ _) ?_
          refine mm_T.laN rfl rfl rfl (by omega) (by decide) rfl ?_
          refine mm_T.s rfl rfl rfl (fun _ => rfl) ?_
          refine mm_T.s rfl rfl rfl (fun _ => rfl) ?_
          refine mm_T.s rfl rfl rfl (fun _ => rfl) ?_
          refine mm_T.s rfl rfl rfl (fun _ => rfl) ?_
          refine mm_T.gf rfl rfl rfl rfl rfl ?_
          refine mm_T.s rfl rfl rfl (fun _ => rfl) ?_
          refine mm_T.s rfl rfl rfl (fun _ => rfl) ?_
          refine mm_T.s rfl rfl rfl (fun _ => rfl) ?_
          refine mm_T.s rfl rfl rfl (fun _ => rfl) ?_
          refine mm_T.s rfl rfl rfl (fun _ => rfl) ?_
          refine mm_T.ti _ (x_84 _ _) ?_
          refine mm_T.s rfl rfl rfl (fun _ => rfl) ?_
          refine mm_T.s rfl rfl rfl (fun _ => rfl) ?_
          refine mm_T.s rfl rfl rfl (fun _ => rfl) ?_
          refine mm_T.gf rfl rfl rfl rfl rfl ?_
          refine mm_T.s rfl rfl rfl (fun _ => rfl) ?_
          refine mm_T.s rfl rfl rfl (fun _ => rfl) ?_
          refine mm_T.s rfl rfl rfl (fun _ => rfl) ?_
          refine mm_T.s rfl rfl rfl (fun _ => rfl) ?_
          refine mm_T.s rfl rfl rfl (fun _ => rfl) ?_
          refine mm_T.ti _ (x_84 _ _) ?_
          refine mm_T.laN rfl rfl rfl (by omega) (by decide) rfl ?_
          refine mm_T.s rfl rfl rfl (fun _ => rfl) ?_
          refine mm_T.lsN rfl rfl rfl (by omega) (by decide) rfl ?_
          refine mm_T.s rfl rfl rfl (fun _ => rfl) ?_
          refine mm_T.gf rfl rfl rfl rfl rfl ?_
          refine mm_T.s rfl rfl rfl (fun _ => rfl) ?_
          refine mm_T.s rfl rfl rfl (fun _ => rfl) ?_
          refine mm_T.s rfl rfl rfl (fun _ => rfl) ?_
          refine mm_T.s rfl rfl rfl (fun _ => rfl) ?_
          refine mm_T.s rfl rfl rfl (fun _ => rfl) ?_
          refine mm_T.ti _ (x_84 _ _) ?_
          refine mm_T.s rfl rfl rfl (fun _ => rfl) ?_
          refine mm_T.s rfl rfl rfl (fun _ => rfl) ?_
          refine mm_T.s rfl rfl rfl (fun _ => rfl) ?_
          refine mm_T.s rfl rfl rfl (fun _ => rfl) ?_
          refine mm_T.lsN rfl rfl rfl (by omega) (by decide) rfl ?_
          refine mm_T.s rfl rfl rfl (fun _ => rfl) ?_
          refine mm_T.s rfl rfl rfl (fun _ => rfl) ?_
          exact K3 _ _ ⟨_, _, _, _, Nat.le_succ_of_le htn, nI_1 n, x_c1_s (by omega) (by omega) (by omega) (by omega) htn hw, rfl, rfl⟩
        · skip
          rintro _ _ ⟨x6, y7, y8, wo3, htn, rfl, hw, rfl, rfl⟩
          obtain ⟨hD3, hs3, hz3, hp3⟩ := x_sd_ok2 hR hC ht htj hj hD2 hz2 (x_lnz hb77) hw
          have hm := x_me_1 (w := wo2 (48 * t + j)) (x_lnz hb25) hp3 (wo3 (48 * t + j))
          refine mm_T.s rfl rfl rfl (fun _ => rfl) ?_
          refine mm_T.s rfl rfl rfl (fun _ => rfl) ?_
          refine mm_T.gf rfl rfl rfl rfl rfl ?_
          refine mm_T.s rfl rfl rfl (fun _ => if_pos (nI_le (Nat.le_refl _) (by omega))) ?_
          refine mm_T.s rfl rfl rfl (fun _ => rfl) ?_
          exact K2 _ _ _ hm ⟨_, _, _, _, _, _, _, hD3, hs3, hz3, rfl, rfl, rfl⟩
  · skip
    rintro _ _ ⟨x2, y3, y4, y5, y6, y7, y8, wo1, htj, rfl, hD1, hs1, hz1, rfl, rfl⟩
    refine mm_T.s rfl rfl rfl (fun _ => rfl) ?_
    refine mm_T.s rfl rfl rfl (fun _ => rfl) ?_
    refine mm_T.gf rfl rfl rfl rfl rfl ?_
    refine mm_T.s rfl rfl rfl (fun _ => if_pos (nI_le (Nat.le_refl _) (by omega))) ?_
    exact mm_T.ret rfl rfl rfl (⟨rfl, _, hD1, hs1, hz1, rfl⟩)
theorem m_clean {c : Nat → mm_C} {has ke f cy sp e1 e2 e3 : Nat → Int32} {ma wo dv : Nat → Int64} {di tr : Int32} {Rn Cn : Nat} (hR : Rn ≤ 48) (hC : Cn ≤ 48) {t : Nat} (ht : t < Rn) (htc : t < Cn) : mm_TC kM 92 [.ref 25, .int (nI t)] (kD c has ke f ma wo dv cy sp e1 e2 e3 (nI Rn) (nI Cn) di tr) (fun v h => ((v = some (.int 1) ∧ (∀ a, t < a → a < Rn → wo (48 * a + t) = 0) ∧ (∀ b, t < b → b < Cn → wo (48 * t + b) = 0)) ∨ (v = some (.int 0) ∧ ¬ ((∀ a, t < a → a < Rn → wo (48 * a + t) = 0) ∧ (∀ b, t < b → b < Cn → wo (48 * t + b) = 0)))) ∧ h = (kD c has ke f ma wo dv cy sp e1 e2 e3 (nI Rn) (nI Cn) di tr)) := by
  refine mm_TC.of (M := kq_92) rfl rfl ?_
  refine mm_T.s rfl rfl rfl (fun _ => rfl) ?_
  refine mm_T.s rfl rfl rfl (fun _ => rfl) ?_
  refine mm_T.s rfl rfl rfl (fun _ => rfl) ?_
  refine mm_T.s rfl rfl rfl (fun _ => rfl) ?_
  refine mm_T.s rfl rfl rfl (fun _ => rfl) ?_
  refine mm_T.ti _ (nI_1 t) ?_
  refine mm_T.s rfl rfl rfl (fun _ => rfl) ?_
  refine mm_T.up (n := Rn) (P := fun i L h => ∃ x2 x3, t < i ∧ x3 = nI i ∧ ((x2 = 1 ∧ ∀ a, t < a → a < i → wo (48 * a + t) = 0) ∨ (x2 = 0 ∧ ¬ (∀ a, t < a → a < Rn → wo (48 * a + t) = 0))) ∧ L = [some (.ref 25), some (.int (nI t)), some (.int x2), some (.int x3)] ∧ h = (kD c has ke f ma wo dv cy sp e1 e2 e3 (nI Rn) (nI Cn) di tr)) ?_ ?_ (t + 1) ht _ _ ⟨_, _, by omega, rfl, Or.inl ⟨rfl, fun a h1 h2 => by omega⟩, rfl, rfl⟩
  · skip
    rintro i _ _ hi ⟨x2, x3, hti, rfl, hc, rfl, rfl⟩ K
    rcases hc with ⟨rfl, hz⟩ | ⟨rfl, hno⟩
    · skip
      refine mm_T.s rfl rfl rfl (fun _ => rfl) ?_
      refine mm_T.s rfl rfl rfl (fun _ => rfl) ?_
      refine mm_T.gf rfl rfl rfl rfl rfl ?_
      refine mm_T.s rfl rfl rfl (fun _ => if_neg (nI_ge hi (by omega))) ?_
      refine mm_T.s rfl rfl rfl (fun _ => rfl) ?_
      refine mm_T.s rfl rfl rfl (fun _ => rfl) ?_
      refine mm_T.s rfl rfl rfl (fun _ => rfl) ?_
      refine mm_T.gf rfl rfl rfl rfl rfl ?_
      refine mm_T.s rfl rfl rfl (fun _ => rfl) ?_
      refine mm_T.s rfl rfl rfl (fun _ => rfl) ?_
      refine mm_T.s rfl rfl rfl (fun _ => rfl) ?_
      refine mm_T.s rfl rfl rfl (fun _ => rfl) ?_
      refine mm_T.s rfl rfl rfl (fun _ => rfl) ?_
      refine mm_T.ti _ (x_84 _ _) ?_
      refine mm_T.laN rfl rfl rfl (by omega) (by decide) rfl ?_
      refine mm_T.s rfl rfl rfl (fun _ => rfl) ?_
      refine mm_T.s rfl rfl rfl (fun _ => rfl) ?_
      refine mm_T.cz rfl rfl (fun hb31 => ?_) (fun hb31 => ?_)
      · skip
        have hnew : ((0 : Int32) = 1 ∧ ∀ a, t < a → a < i + 1 → wo (48 * a + t) = 0) ∨ ((0 : Int32) = 0 ∧ ¬ (∀ a, t < a → a < Rn → wo (48 * a + t) = 0)) := Or.inr ⟨rfl, fun q => x_lnz hb31 (q i hti hi)⟩
        refine mm_T.s rfl rfl rfl (fun _ => rfl) ?_
        refine mm_T.s rfl rfl rfl (fun _ => rfl) ?_
        refine mm_T.s rfl rfl rfl (fun _ => rfl) ?_
        refine mm_T.s rfl rfl rfl (fun _ => rfl) ?_
        exact K _ _ ⟨_, _, by omega, nI_1 i, hnew, rfl, rfl⟩
      · skip
        have hnew : ((1 : Int32) = 1 ∧ ∀ a, t < a → a < i + 1 → wo (48 * a + t) = 0) ∨ ((1 : Int32) = 0 ∧ ¬ (∀ a, t < a → a < Rn → wo (48 * a + t) = 0)) := Or.inl ⟨rfl, fun a h1 h2 => by
          by_cases e : a = i
          · rw [e]
            exact x_lz (Classical.not_not.mp hb31)
          · exact hz a h1 (by omega)⟩
        refine mm_T.s rfl rfl rfl (fun _ => rfl) ?_
        refine mm_T.s rfl rfl rfl (fun _ => rfl) ?_
        refine mm_T.s rfl rfl rfl (fun _ => rfl) ?_
        refine mm_T.s rfl rfl rfl (fun _ => rfl) ?_
        refine mm_T.s rfl rfl rfl (fun _ => rfl) ?_
        exact K _ _ ⟨_, _, by omega, nI_1 i, hnew, rfl, rfl⟩
    · skip
      refine mm_T.s rfl rfl rfl (fun _ => rfl) ?_
      refine mm_T.s rfl rfl rfl (fun _ => rfl) ?_
      refine mm_T.gf rfl rfl rfl rfl rfl ?_
      refine mm_T.s rfl rfl rfl (fun _ => if_neg (nI_ge hi (by omega))) ?_
      refine mm_T.s rfl rfl rfl (fun _ => rfl) ?_
      refine mm_T.s rfl rfl rfl (fun _ => rfl) ?_
      refine mm_T.s rfl rfl rfl (fun _ => rfl) ?_
      refine mm_T.s rfl rfl rfl (fun _ => rfl) ?_
      refine mm_T.s rfl rfl rfl (fun _ => rfl) ?_
      refine mm_T.s rfl rfl rfl (fun _ => rfl) ?_
      exact K _ _ ⟨_, _, by omega, nI_1 i, Or.inr ⟨rfl, hno⟩, rfl, rfl⟩
  · skip
    rintro _ _ ⟨x2, x3, hti, rfl, hc, rfl, rfl⟩
    have hc2 : (x2 = 1 ∧ (∀ a, t < a → a < Rn → wo (48 * a + t) = 0) ∧ ∀ b, t < b → b < t + 1 → wo (48 * t + b) = 0) ∨ (x2 = 0 ∧ ¬ ((∀ a, t < a → a < Rn → wo (48 * a + t) = 0) ∧ (∀ b, t < b → b < Cn → wo (48 * t + b) = 0))) := hc.imp (fun q => ⟨q.1, q.2, fun b h1 h2 => by omega⟩) (fun q => ⟨q.1, fun z => q.2 z.1⟩)
    refine mm_T.s rfl rfl rfl (fun _ => rfl) ?_
    refine mm_T.s rfl rfl rfl (fun _ => rfl) ?_
    refine mm_T.gf rfl rfl rfl rfl rfl ?_
    refine mm_T.s rfl rfl rfl (fun _ => if_pos (nI_le (Nat.le_refl _) (by omega))) ?_
    refine mm_T.s rfl rfl rfl (fun _ => rfl) ?_
    refine mm_T.s rfl rfl rfl (fun _ => rfl) ?_
    refine mm_T.s rfl rfl rfl (fun _ => rfl) ?_
    refine mm_T.ti _ (nI_1 t) ?_
    refine mm_T.s rfl rfl rfl (fun _ => rfl) ?_
    refine mm_T.up (n := Cn) (P := fun i L h => ∃ x2 x3, t < i ∧ x3 = nI i ∧ ((x2 = 1 ∧ (∀ a, t < a → a < Rn → wo (48 * a + t) = 0) ∧ ∀ b, t < b → b < i → wo (48 * t + b) = 0) ∨ (x2 = 0 ∧ ¬ ((∀ a, t < a → a < Rn → wo (48 * a + t) = 0) ∧ (∀ b, t < b → b < Cn → wo (48 * t + b) = 0)))) ∧ L = [some (.ref 25), some (.int (nI t)), some (.int x2), some (.int x3)] ∧ h = (kD c has ke f ma wo dv cy sp e1 e2 e3 (nI Rn) (nI Cn) di tr)) ?_ ?_ (t + 1) htc _ _ ⟨_, _, by omega, rfl, hc2, rfl, rfl⟩
    · skip
      rintro j _ _ hj ⟨x2, x3, htj, rfl, hc, rfl, rfl⟩ K2
      rcases hc with ⟨rfl, hcz, hz⟩ | ⟨rfl, hno⟩
      · skip
        refine mm_T.s rfl rfl rfl (fun _ => rfl) ?_
        refine mm_T.s rfl rfl rfl (fun _ => rfl) ?_
        refine mm_T.gf rfl rfl rfl rfl rfl ?_
        refine mm_T.s rfl rfl rfl (fun _ => if_neg (nI_ge hj (by omega))) ?_
        refine mm_T.s rfl rfl rfl (fun _ => rfl) ?_
        refine mm_T.s rfl rfl rfl (fun _ => rfl) ?_
        refine mm_T.s rfl rfl rfl (fun _ => rfl) ?_
        refine mm_T.gf rfl rfl rfl rfl rfl ?_
        refine mm_T.s rfl rfl rfl (fun _ => rfl) ?_
        refine mm_T.s rfl rfl rfl (fun _ => rfl) ?_
        refine mm_T.s rfl rfl rfl (fun _ => rfl) ?_
        refine mm_T.s rfl rfl rfl (fun _ => rfl) ?_
        refine mm_T.s rfl rfl rfl (fun _ => rfl) ?_
        refine mm_T.ti _ (x_84 _ _) ?_
        refine mm_T.laN rfl rfl rfl (by omega) (by decide) rfl ?_
        refine mm_T.s rfl rfl rfl (fun _ => rfl) ?_
        refine mm_T.s rfl rfl rfl (fun _ => rfl) ?_
        refine mm_T.cz rfl rfl (fun hb75 => ?_) (fun hb75 => ?_)
        · skip
          have hnew : ((0 : Int32) = 1 ∧ (∀ a, t < a → a < Rn → wo (48 * a + t) = 0) ∧ ∀ b, t < b → b < j + 1 → wo (48 * t + b) = 0) ∨ ((0 : Int32) = 0 ∧ ¬ ((∀ a, t < a → a < Rn → wo (48 * a + t) = 0) ∧ (∀ b, t < b → b < Cn → wo (48 * t + b) = 0))) := Or.inr ⟨rfl, fun q => x_lnz hb75 (q.2 j htj hj)⟩
          refine mm_T.s rfl rfl rfl (fun _ => rfl) ?_
          refine mm_T.s rfl rfl rfl (fun _ => rfl) ?_
          refine mm_T.s rfl rfl rfl (fun _ => rfl) ?_
          refine mm_T.s rfl rfl rfl (fun _ => rfl) ?_
          exact K2 _ _ ⟨_, _, by omega, nI_1 j, hnew, rfl, rfl⟩
        · skip
          have hnew : ((1 : Int32) = 1 ∧ (∀ a, t < a → a < Rn → wo (48 * a + t) = 0) ∧ ∀ b, t < b → b < j + 1 → wo (48 * t + b) = 0) ∨ ((1 : Int32) = 0 ∧ ¬ ((∀ a, t < a → a < Rn → wo (48 * a + t) = 0) ∧ (∀ b, t < b → b < Cn → wo (48 * t + b) = 0))) := Or.inl ⟨rfl, hcz, fun b h1 h2 => by
            by_cases e : b = j
            · rw [e]
              exact x_lz (Classical.not_not.mp hb75)
            · exact hz b h1 (by omega)⟩
          refine mm_T.s rfl rfl rfl (fun _ => rfl) ?_
          refine mm_T.s rfl rfl rfl (fun _ => rfl) ?_
          refine mm_T.s rfl rfl rfl (fun _ => rfl) ?_
          refine mm_T.s rfl rfl rfl (fun _ => rfl) ?_
          refine mm_T.s rfl rfl rfl (fun _ => rfl) ?_
          exact K2 _ _ ⟨_, _, by omega, nI_1 j, hnew, rfl, rfl⟩
      · skip
        refine mm_T.s rfl rfl rfl (fun _ => rfl) ?_
        refine mm_T.s rfl rfl rfl (fun _ => rfl) ?_
        refine mm_T.gf rfl rfl rfl rfl rfl ?_
        refine mm_T.s rfl rfl rfl (fun _ => if_neg (nI_ge hj (by omega))) ?_
        refine mm_T.s rfl rfl rfl (fun _ => rfl) ?_
        refine mm_T.s rfl rfl rfl (fun _ => rfl) ?_
        refine mm_T.s rfl rfl rfl (fun _ => rfl) ?_
        refine mm_T.s rfl rfl rfl (fun _ => rfl) ?_
        refine mm_T.s rfl rfl rfl (fun _ => rfl) ?_
        refine mm_T.s rfl rfl rfl (fun _ => rfl) ?_
        exact K2 _ _ ⟨_, _, by omega, nI_1 j, Or.inr ⟨rfl, hno⟩, rfl, rfl⟩
    · skip
      rintro _ _ ⟨x2, x3, htj, rfl, hc, rfl, rfl⟩
      rcases hc with ⟨rfl, hcz, hz⟩ | ⟨rfl, hno⟩
      · skip
        refine mm_T.s rfl rfl rfl (fun _ => rfl) ?_
        refine mm_T.s rfl rfl rfl (fun _ => rfl) ?_
        refine mm_T.gf rfl rfl rfl rfl rfl ?_
        refine mm_T.s rfl rfl rfl (fun _ => if_pos (nI_le (Nat.le_refl _) (by omega))) ?_
        refine mm_T.s rfl rfl rfl (fun _ => rfl) ?_
        exact mm_T.ret rfl rfl rfl (⟨Or.inl ⟨rfl, hcz, hz⟩, rfl⟩)
      · skip
        refine mm_T.s rfl rfl rfl (fun _ => rfl) ?_
        refine mm_T.s rfl rfl rfl (fun _ => rfl) ?_
        refine mm_T.gf rfl rfl rfl rfl rfl ?_
        refine mm_T.s rfl rfl rfl (fun _ => if_pos (nI_le (Nat.le_refl _) (by omega))) ?_
        refine mm_T.s rfl rfl rfl (fun _ => rfl) ?_
        exact mm_T.ret rfl rfl rfl (⟨Or.inr ⟨rfl, hno⟩, rfl⟩)
