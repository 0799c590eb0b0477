/-- a part of s that is new and has k + 1 vertices; how many among 1 .. t -/
abbrev x_nw (has : Nat → Int32) (n s : Nat) (k : Int32) (q : Nat) : Prop := x_A s q ∧ x_sz8 (nI q) 8 = k + 1 ∧ has (256 * n + q) = 0
def x_an (has : Nat → Int32) (n s : Nat) (k : Int32) : Nat → Nat
  | 0 => 0
  | t + 1 => if x_nw has n s k (t + 1) then x_an has n s k t + 1 else x_an has n s k t
def x_mw (has : Nat → Int32) (n s : Nat) : Nat → Nat
  | 0 => 0
  | t + 1 => if x_A s (t + 1) ∧ has (256 * n + (t + 1)) = 0 then x_mw has n s t + 1 else x_mw has n s t
def x_su (f has : Nat → Int32) (s a : Nat) (v : Int32) (t : Nat) : Nat → Int32 := fun j => if a < j ∧ j ≤ a + t ∧ x_A s (j - a) ∧ has j = 0 then v else f j
theorem x_an_le (has : Nat → Int32) (n s : Nat) (k : Int32) : ∀ t, x_an has n s k t ≤ t
  | 0 => Nat.le_refl 0
  | t + 1 => by
    have ih := x_an_le has n s k t
    unfold x_an
    split <;> omega
theorem x_su_0 (f has : Nat → Int32) (s a : Nat) (v : Int32) : x_su f has s a v 0 = f := by
  funext j
  unfold x_su
  rw [if_neg (fun q => by omega)]
theorem x_su_y (f : Nat → Int32) {has : Nat → Int32} {s a t : Nat} (v : Int32) (h : x_A s (t + 1)) (h0 : has (a + (t + 1)) = 0) : upd (x_su f has s a v t) (a + (t + 1)) v = x_su f has s a v (t + 1) := by
  funext j
  unfold upd x_su
  by_cases h1 : j = a + (t + 1)
  · subst h1
    rw [if_pos rfl, if_pos ⟨by omega, by omega, by rw [show a + (t + 1) - a = t + 1 by omega]; exact h, h0⟩]
  · rw [if_neg h1]
    by_cases h2 : a < j ∧ j ≤ a + t ∧ x_A s (j - a) ∧ has j = 0
    · rw [if_pos h2, if_pos ⟨h2.1, by omega, h2.2.2⟩]
    · rw [if_neg h2, if_neg (fun q => h2 ⟨q.1, by omega, q.2.2⟩)]
theorem x_su_n (f : Nat → Int32) {has : Nat → Int32} {s a t : Nat} (v : Int32) (h : ¬ (x_A s (t + 1) ∧ has (a + (t + 1)) = 0)) : x_su f has s a v (t + 1) = x_su f has s a v t := by
  funext j
  unfold x_su
  by_cases h1 : j = a + (t + 1)
  · subst h1
    rw [if_neg (fun q => h ⟨by have z := q.2.2.1; rwa [show a + (t + 1) - a = t + 1 by omega] at z, q.2.2.2⟩), if_neg (fun q => by omega)]
  · by_cases h2 : a < j ∧ j ≤ a + t ∧ x_A s (j - a) ∧ has j = 0
    · rw [if_pos h2, if_pos ⟨h2.1, by omega, h2.2.2⟩]
    · rw [if_neg h2, if_neg (fun q => h2 ⟨q.1, by omega, q.2.2⟩)]
theorem x_su_at (f has : Nat → Int32) (s a : Nat) (v : Int32) (t : Nat) : x_su f has s a v t (a + (t + 1)) = f (a + (t + 1)) := by
  unfold x_su
  rw [if_neg (fun q => by omega)]
theorem g_addI {h : mm_H} {ro co di tr : Int32} {has : Nat → Int32} (hO : mm_nth h 25 = some (x_mo ro co di tr)) (hH : mm_nth h 26 = some (x_ha has)) {n s : Nat} (hn : n < 2) (hs : s < 256) (k : Int32) (m : Nat) {res : Option Value × mm_H} (hk : mm_E kM none 72 47 [some (.ref 25), some (.int (nI n)), some (.int (nI s)), some (.int k), some (.int (nI (m + x_an has n s k s))), some (.int (nI (s + 1)))] [] h res) : mm_E kM none 72 47 [some (.ref 25), some (.int (nI n)), some (.int (nI s)), some (.int k), some (.int (nI m)), some (.int (nI 1))] [] h res := by
  refine mm_E.loop (fun t => [some (.ref 25), some (.int (nI n)), some (.int (nI s)), some (.int k), some (.int (nI (m + x_an has n s k t))), some (.int (nI (t + 1)))]) (fun _ => h) s hk ?_
  intro t ht ih
  rw [← nI_1] at ih
  by_cases hA : x_A s (t + 1)
  · by_cases hB : x_sz8 (nI (t + 1)) 8 = k + 1
    · by_cases h0 : has (256 * n + (t + 1)) = 0
      · rw [show x_an has n s k (t + 1) = x_an has n s k t + 1 from if_pos ⟨hA, hB, h0⟩, ← Nat.add_assoc, ← nI_1] at ih
        refine mm_E.s rfl rfl rfl (fun _ => rfl) ?_
        refine mm_E.s rfl rfl rfl (fun _ => rfl) ?_
        refine mm_E.s rfl rfl rfl (fun _ => if_neg (nI_nlt (a := s) (b := t + 1) (by omega) (by omega))) ?_
        refine mm_E.s rfl rfl rfl (fun _ => rfl) ?_
        refine mm_E.s rfl rfl rfl (fun _ => rfl) ?_
        refine mm_E.s rfl rfl rfl (fun _ => rfl) ?_
        refine mm_E.s rfl rfl rfl (fun _ => rfl) ?_
        refine mm_E.s rfl rfl rfl (fun _ => rfl) ?_
        refine mm_E.s rfl rfl rfl (fun _ => if_pos hA) ?_
        refine mm_E.s rfl rfl rfl (fun _ => rfl) ?_
        refine mm_E.ic rfl rfl rfl rfl rfl (x_size _) ?_
        refine mm_E.s rfl rfl rfl (fun _ => rfl) ?_
        refine mm_E.s rfl rfl rfl (fun _ => rfl) ?_
        refine mm_E.s rfl rfl rfl (fun _ => rfl) ?_
        refine mm_E.s rfl rfl rfl (fun _ => if_pos hB) ?_
        refine mm_E.s rfl rfl rfl (fun _ => rfl) ?_
        refine mm_E.gf rfl rfl rfl hO rfl ?_
        refine mm_E.s rfl rfl rfl (fun _ => rfl) ?_
        refine mm_E.s rfl rfl rfl (fun _ => rfl) ?_
        refine mm_E.s rfl rfl rfl (fun _ => rfl) ?_
        refine mm_E.s rfl rfl rfl (fun _ => rfl) ?_
        refine mm_E.s rfl rfl rfl (fun _ => rfl) ?_
        refine mm_E.ti _ (x_ix n (t + 1)) ?_
        refine mm_E.za rfl rfl hH (mm_bd (by omega) (by decide)) (v := has (256 * n + (t + 1))) (by rw [mm_cl (by omega)]) ?_
        refine mm_E.s rfl rfl rfl (fun _ => if_pos h0) ?_
        refine mm_E.s rfl rfl rfl (fun _ => rfl) ?_
        refine mm_E.s rfl rfl rfl (fun _ => rfl) ?_
        refine mm_E.s rfl rfl rfl (fun _ => rfl) ?_
        refine mm_E.s rfl rfl rfl (fun _ => rfl) ?_
        refine mm_E.s rfl rfl rfl (fun _ => rfl) ?_
        refine mm_E.s rfl rfl rfl (fun _ => rfl) ?_
        refine mm_E.s rfl rfl rfl (fun _ => rfl) ?_
        exact ih
      · rw [show x_an has n s k (t + 1) = x_an has n s k t from if_neg (fun q => h0 q.2.2)] at ih
        refine mm_E.s rfl rfl rfl (fun _ => rfl) ?_
        refine mm_E.s rfl rfl rfl (fun _ => rfl) ?_
        refine mm_E.s rfl rfl rfl (fun _ => if_neg (nI_nlt (a := s) (b := t + 1) (by omega) (by omega))) ?_
        refine mm_E.s rfl rfl rfl (fun _ => rfl) ?_
        refine mm_E.s rfl rfl rfl (fun _ => rfl) ?_
        refine mm_E.s rfl rfl rfl (fun _ => rfl) ?_
        refine mm_E.s rfl rfl rfl (fun _ => rfl) ?_
        refine mm_E.s rfl rfl rfl (fun _ => rfl) ?_
        refine mm_E.s rfl rfl rfl (fun _ => if_pos hA) ?_
        refine mm_E.s rfl rfl rfl (fun _ => rfl) ?_
        refine mm_E.ic rfl rfl rfl rfl rfl (x_size _) ?_
        refine mm_E.s rfl rfl rfl (fun _ => rfl) ?_
        refine mm_E.s rfl rfl rfl (fun _ => rfl) ?_
        refine mm_E.s rfl rfl rfl (fun _ => rfl) ?_
        refine mm_E.s rfl rfl rfl (fun _ => if_pos hB) ?_
        refine mm_E.s rfl rfl rfl (fun _ => rfl) ?_
        refine mm_E.gf rfl rfl rfl hO rfl ?_
        refine mm_E.s rfl rfl rfl (fun _ => rfl) ?_
        refine mm_E.s rfl rfl rfl (fun _ => rfl) ?_
        refine mm_E.s rfl rfl rfl (fun _ => rfl) ?_
        refine mm_E.s rfl rfl rfl (fun _ => rfl) ?_
        refine mm_E.s rfl rfl rfl (fun _ => rfl) ?_
        refine mm_E.ti _ (x_ix n (t + 1)) ?_
        refine mm_E.za rfl rfl hH (mm_bd (by omega) (by decide)) (v := has (256 * n + (t + 1))) (by rw [mm_cl (by omega)]) ?_
        refine mm_E.s rfl rfl rfl (fun _ => if_neg h0) ?_
        refine mm_E.s rfl rfl rfl (fun _ => rfl) ?_
        refine mm_E.s rfl rfl rfl (fun _ => rfl) ?_
        refine mm_E.s rfl rfl rfl (fun _ => rfl) ?_
        refine mm_E.s rfl rfl rfl (fun _ => rfl) ?_
        exact ih
    · rw [show x_an has n s k (t + 1) = x_an has n s k t from if_neg (fun q => hB q.2.1)] at ih
      refine mm_E.s rfl rfl rfl (fun _ => rfl) ?_
      refine mm_E.s rfl rfl rfl (fun _ => rfl) ?_
      refine mm_E.s rfl rfl rfl (fun _ => if_neg (nI_nlt (a := s) (b := t + 1) (by omega) (by omega))) ?_
      refine mm_E.s rfl rfl rfl (fun _ => rfl) ?_
      refine mm_E.s rfl rfl rfl (fun _ => rfl) ?_
      refine mm_E.s rfl rfl rfl (fun _ => rfl) ?_
      refine mm_E.s rfl rfl rfl (fun _ => rfl) ?_
      refine mm_E.s rfl rfl rfl (fun _ => rfl) ?_
      refine mm_E.s rfl rfl rfl (fun _ => if_pos hA) ?_
      refine mm_E.s rfl rfl rfl (fun _ => rfl) ?_
      refine mm_E.ic rfl rfl rfl rfl rfl (x_size _) ?_
      refine mm_E.s rfl rfl rfl (fun _ => rfl) ?_
      refine mm_E.s rfl rfl rfl (fun _ => rfl) ?_
      refine mm_E.s rfl rfl rfl (fun _ => rfl) ?_
      refine mm_E.s rfl rfl rfl (fun _ => if_neg hB) ?_
      refine mm_E.s rfl rfl rfl (fun _ => rfl) ?_
      refine mm_E.s rfl rfl rfl (fun _ => rfl) ?_
      refine mm_E.s rfl rfl rfl (fun _ => rfl) ?_
      refine mm_E.s rfl rfl rfl (fun _ => rfl) ?_
      exact ih
  · rw [show x_an has n s k (t + 1) = x_an has n s k t from if_neg (fun q => hA q.1)] at ih
    refine mm_E.s rfl rfl rfl (fun _ => rfl) ?_
    refine mm_E.s rfl rfl rfl (fun _ => rfl) ?_
    refine mm_E.s rfl rfl rfl (fun _ => if_neg (nI_nlt (a := s) (b := t + 1) (by omega) (by omega))) ?_
    refine mm_E.s rfl rfl rfl (fun _ => rfl) ?_
    refine mm_E.s rfl rfl rfl (fun _ => rfl) ?_
    refine mm_E.s rfl rfl rfl (fun _ => rfl) ?_
    refine mm_E.s rfl rfl rfl (fun _ => rfl) ?_
    refine mm_E.s rfl rfl rfl (fun _ => rfl) ?_
    refine mm_E.s rfl rfl rfl (fun _ => if_neg hA) ?_
    refine mm_E.s rfl rfl rfl (fun _ => rfl) ?_
    refine mm_E.s rfl rfl rfl (fun _ => rfl) ?_
    refine mm_E.s rfl rfl rfl (fun _ => rfl) ?_
    refine mm_E.s rfl rfl rfl (fun _ => rfl) ?_
    exact ih

/-- there is room for s -/
abbrev x_ro (has : Nat → Int32) (n s k : Nat) : Prop := x_mn has n (nI k) 255 + x_an has n s (nI k) s ≤ 24
theorem g_addK {h : mm_H} {ro co di tr : Int32} {has : Nat → Int32} (hO : mm_nth h 25 = some (x_mo ro co di tr)) (hH : mm_nth h 26 = some (x_ha has)) {n s : Nat} (hn : n < 2) (hs1 : 1 ≤ s) (hs : s < 256) {k : Nat} (hk4 : k < 4) {y4 y5 : Option Value} {res : Option Value × mm_H} (hk : mm_E kM none 72 106 [some (.ref 25), some (.int (nI n)), some (.int (nI s)), some (.int (nI k)), some (.int (nI (x_mn has n (nI k) 255 + x_an has n s (nI k) s))), some (.int (nI (s + 1)))] [] h res) : mm_E kM none 72 31 [some (.ref 25), some (.int (nI n)), some (.int (nI s)), some (.int (nI k)), y4, y5] [] h res := by
  refine mm_E.s rfl rfl rfl (fun _ => rfl) ?_
  refine mm_E.s rfl rfl rfl (fun _ => rfl) ?_
  refine mm_E.s rfl rfl rfl (fun _ => if_neg (nI_ge (a := k) (b := 4) (by omega) (by decide))) ?_
  refine mm_E.s rfl rfl rfl (fun _ => rfl) ?_
  refine mm_E.s rfl rfl rfl (fun _ => rfl) ?_
  refine mm_E.s rfl rfl rfl (fun _ => rfl) ?_
  refine mm_E.iv rfl rfl rfl rfl hO rfl (g_many hO hH hn (nI k)) ?_
  refine mm_E.s rfl rfl rfl (fun _ => rfl) ?_
  refine mm_E.s rfl rfl rfl (fun _ => rfl) ?_
  refine mm_E.s rfl rfl rfl (fun _ => rfl) ?_
  refine g_addI hO hH hn hs (nI k) _ ?_
  refine mm_E.s rfl rfl rfl (fun _ => rfl) ?_
  refine mm_E.s rfl rfl rfl (fun _ => rfl) ?_
  refine mm_E.s rfl rfl rfl (fun _ => if_pos (nI_lt (a := s) (b := s + 1) (by omega) (by omega))) ?_
  exact hk

theorem x_le24 (m : Nat) (hm : m < 2 ^ 31) : nI m ≤ (Int8.ofInt 24).toInt32 ↔ m ≤ 24 := nI_leI hm (by decide)
theorem g_addF {h : mm_H} {ro co di tr : Int32} {has : Nat → Int32} (hO : mm_nth h 25 = some (x_mo ro co di tr)) (hH : mm_nth h 26 = some (x_ha has)) {n s : Nat} (hn : n < 2) (hs1 : 1 ≤ s) (hs : s < 256) (h4 : x_sz8 (nI s) 8 ≤ 4) (hf : ¬ ∀ k, k < 4 → x_ro has n s k) : mm_EC kM 72 [.ref 25, .int (nI n), .int (nI s)] h (some (.int (-2)), h) := by
  have hc : nI n = 0 ∨ nI n = 1 := by
    rcases (show n = 0 ∨ n = 1 by omega) with rfl | rfl
    · exact Or.inl rfl
    · exact Or.inr rfl
  refine ⟨kq_72, rfl, rfl, ?_⟩
  refine mm_E.s rfl rfl rfl (fun _ => rfl) ?_
  refine mm_E.ic rfl rfl rfl rfl rfl (x_isC1 hc) ?_
  refine mm_E.s rfl rfl rfl (fun _ => rfl) ?_
  refine mm_E.s rfl rfl rfl (fun _ => rfl) ?_
  refine mm_E.s rfl rfl rfl (fun _ => rfl) ?_
  refine mm_E.s rfl rfl rfl (fun _ => if_neg (nI_nlt (a := s) (b := 1) (by omega) (by omega))) ?_
  refine mm_E.s rfl rfl rfl (fun _ => rfl) ?_
  refine mm_E.s rfl rfl rfl (fun _ => rfl) ?_
  refine mm_E.s rfl rfl rfl (fun _ => if_neg (nI_nlt (a := 255) (b := s) (by omega) (by decide))) ?_
  refine mm_E.s rfl rfl rfl (fun _ => rfl) ?_
  refine mm_E.ic rfl rfl rfl rfl rfl (x_size _) ?_
  refine mm_E.s rfl rfl rfl (fun _ => rfl) ?_
  refine mm_E.s rfl rfl rfl (fun _ => if_pos h4) ?_
  refine mm_E.s rfl rfl rfl (fun _ => rfl) ?_
  refine mm_E.s rfl rfl rfl (fun _ => rfl) ?_
  have key : ∀ (d k : Nat) (y4 y5 : Option Value), k + d = 4 → (∀ k', k' < k → x_ro has n s k') → mm_E kM none 72 31 [some (.ref 25), some (.int (nI n)), some (.int (nI s)), some (.int (nI k)), y4, y5] [] h (some (.int (-2)), h) := by
    intro d
    induction d with
    | zero =>
      intro k y4 y5 hk hall
      exact absurd (fun k' hk' => hall k' (by omega)) hf
    | succ d ih =>
      intro k y4 y5 hk hall
      refine g_addK hO hH hn hs1 hs (by omega) ?_
      have b1 := x_mn_le has n (nI k) 255
      have b2 := x_an_le has n s (nI k) s
      by_cases h24 : x_ro has n s k
      · have z := ih (k + 1) (some (.int (nI (x_mn has n (nI k) 255 + x_an has n s (nI k) s)))) (some (.int (nI (s + 1)))) (by omega) (fun k' hk' => by
          rcases Nat.lt_or_ge k' k with q | q
          · exact hall k' q
          · have : k' = k := by omega
            subst this
            exact h24)
        rw [← nI_1] at z
        refine mm_E.s rfl rfl rfl (fun _ => rfl) ?_
        refine mm_E.s rfl rfl rfl (fun _ => rfl) ?_
        refine mm_E.s rfl rfl rfl (fun _ => if_pos ((x_le24 _ (by omega)).mpr h24)) ?_
        refine mm_E.s rfl rfl rfl (fun _ => rfl) ?_
        refine mm_E.s rfl rfl rfl (fun _ => rfl) ?_
        exact z
      · skip
        refine mm_E.s rfl rfl rfl (fun _ => rfl) ?_
        refine mm_E.s rfl rfl rfl (fun _ => rfl) ?_
        refine mm_E.s rfl rfl rfl (fun _ => if_neg (fun q => h24 ((x_le24 _ (by omega)).mp q))) ?_
        refine mm_E.s rfl rfl rfl (fun _ => rfl) ?_
        exact mm_E.ret rfl rfl rfl
  exact key 4 0 none none rfl (fun k' h => absurd h (Nat.not_lt_zero k'))

theorem g_add {h : mm_H} {ro co di tr : Int32} {has : Nat → Int32} (hO : mm_nth h 25 = some (x_mo ro co di tr)) (hH : mm_nth h 26 = some (x_ha has)) {kept : Nat → Int32} (h27 : mm_nth h 27 = some (x_it 512 kept)) {n s : Nat} (hn : n < 2) (hs1 : 1 ≤ s) (hs : s < 256) (h4 : x_sz8 (nI s) 8 ≤ 4) (hf : ∀ k, k < 4 → x_ro has n s k) : mm_EC kM 72 [.ref 25, .int (nI n), .int (nI s)] h (some (.int (nI (x_mw has n s s))), (h.set 26 (x_ha (x_su has has s (256 * n) 1 s))).set 27 (x_it 512 (x_su kept has s (256 * n) 0 s))) := by
  have l26 := mm_nth_lt hH
  have l27 := mm_nth_lt h27
  have hc : nI n = 0 ∨ nI n = 1 := by
    rcases (show n = 0 ∨ n = 1 by omega) with rfl | rfl
    · exact Or.inl rfl
    · exact Or.inr rfl
  refine ⟨kq_72, rfl, rfl, ?_⟩
  refine mm_E.s rfl rfl rfl (fun _ => rfl) ?_
  refine mm_E.ic rfl rfl rfl rfl rfl (x_isC1 hc) ?_
  refine mm_E.s rfl rfl rfl (fun _ => rfl) ?_
  refine mm_E.s rfl rfl rfl (fun _ => rfl) ?_
  refine mm_E.s rfl rfl rfl (fun _ => rfl) ?_
  refine mm_E.s rfl rfl rfl (fun _ => if_neg (nI_nlt (a := s) (b := 1) (by omega) (by omega))) ?_
  refine mm_E.s rfl rfl rfl (fun _ => rfl) ?_
  refine mm_E.s rfl rfl rfl (fun _ => rfl) ?_
  refine mm_E.s rfl rfl rfl (fun _ => if_neg (nI_nlt (a := 255) (b := s) (by omega) (by decide))) ?_
  refine mm_E.s rfl rfl rfl (fun _ => rfl) ?_
  refine mm_E.ic rfl rfl rfl rfl rfl (x_size _) ?_
  refine mm_E.s rfl rfl rfl (fun _ => rfl) ?_
  refine mm_E.s rfl rfl rfl (fun _ => if_pos h4) ?_
  refine mm_E.s rfl rfl rfl (fun _ => rfl) ?_
  refine mm_E.s rfl rfl rfl (fun _ => rfl) ?_
  have key : ∀ (d k : Nat) (y4 y5 : Option Value), k + d = 4 → mm_E kM none 72 31 [some (.ref 25), some (.int (nI n)), some (.int (nI s)), some (.int (nI k)), y4, y5] [] h (some (.int (nI (x_mw has n s s))), (h.set 26 (x_ha (x_su has has s (256 * n) 1 s))).set 27 (x_it 512 (x_su kept has s (256 * n) 0 s))) := by
    intro d
    induction d with
    | zero =>
      intro k y4 y5 hk
      have : k = 4 := by omega
      subst this
      refine mm_E.hc ((h.set 26 (x_ha (x_su has has s (256 * n) 1 0))).set 27 (x_it 512 (x_su kept has s (256 * n) 0 0))) (by rw [x_su_0, x_su_0, x_same hH, x_same h27]) ?_
      refine mm_E.s rfl rfl rfl (fun _ => rfl) ?_
      refine mm_E.s rfl rfl rfl (fun _ => rfl) ?_
      refine mm_E.s rfl rfl rfl (fun _ => rfl) ?_
      refine mm_E.s rfl rfl rfl (fun _ => rfl) ?_
      refine mm_E.s rfl rfl rfl (fun _ => rfl) ?_
      refine mm_E.s rfl rfl rfl (fun _ => rfl) ?_
      refine mm_E.s rfl rfl rfl (fun _ => rfl) ?_
      refine mm_E.loop (fun t => [some (.ref 25), some (.int (nI n)), some (.int (nI s)), some (.int (nI (x_mw has n s t))), some (.int (nI (t + 1))), y5]) (fun t => (h.set 26 (x_ha (x_su has has s (256 * n) 1 t))).set 27 (x_it 512 (x_su kept has s (256 * n) 0 t))) s ?_ ?_
      · skip
        refine mm_E.s rfl rfl rfl (fun _ => rfl) ?_
        refine mm_E.s rfl rfl rfl (fun _ => rfl) ?_
        refine mm_E.s rfl rfl rfl (fun _ => if_pos (nI_lt (a := s) (b := s + 1) (by omega) (by omega))) ?_
        refine mm_E.s rfl rfl rfl (fun _ => rfl) ?_
        exact mm_E.ret rfl rfl rfl
      · intro t ht ih
        rw [← nI_1] at ih
        have hO2 : mm_nth ((h.set 26 (x_ha (x_su has has s (256 * n) 1 t))).set 27 (x_it 512 (x_su kept has s (256 * n) 0 t))) 25 = some (x_mo ro co di tr) := by rw [mm_nth_set_ne (by decide), mm_nth_set_ne (by decide)]; exact hO
        have hH2 : mm_nth ((h.set 26 (x_ha (x_su has has s (256 * n) 1 t))).set 27 (x_it 512 (x_su kept has s (256 * n) 0 t))) 26 = some (x_ha (x_su has has s (256 * n) 1 t)) := by rw [mm_nth_set_ne (by decide)]; exact mm_nth_set l26
        by_cases hA : x_A s (t + 1)
        · by_cases h0 : has (256 * n + (t + 1)) = 0
          · rw [show x_mw has n s (t + 1) = x_mw has n s t + 1 from if_pos ⟨hA, h0⟩, ← nI_1, ← x_su_y has 1 hA h0, ← x_su_y kept 0 hA h0] at ih
            have hO3 : mm_nth (((h.set 26 (x_ha (x_su has has s (256 * n) 1 t))).set 27 (x_it 512 (x_su kept has s (256 * n) 0 t))).set 26 (x_ha (upd (x_su has has s (256 * n) 1 t) (256 * n + (t + 1)) 1))) 25 = some (x_mo ro co di tr) := by rw [mm_nth_set_ne (by decide)]; exact hO2
            have h27b : mm_nth (((h.set 26 (x_ha (x_su has has s (256 * n) 1 t))).set 27 (x_it 512 (x_su kept has s (256 * n) 0 t))).set 26 (x_ha (upd (x_su has has s (256 * n) 1 t) (256 * n + (t + 1)) 1))) 27 = some (x_it 512 (x_su kept has s (256 * n) 0 t)) := by rw [mm_nth_set_ne (by decide)]; exact mm_nth_set (by simpa using l27)
            refine mm_E.s rfl rfl rfl (fun _ => rfl) ?_
            refine mm_E.s rfl rfl rfl (fun _ => rfl) ?_
            refine mm_E.s rfl rfl rfl (fun _ => if_neg (nI_nlt (a := s) (b := t + 1) (by omega) (by omega))) ?_
            refine mm_E.s rfl rfl rfl (fun _ => rfl) ?_
            refine mm_E.s rfl rfl rfl (fun _ => rfl) ?_
            refine mm_E.s rfl rfl rfl (fun _ => rfl) ?_
            refine mm_E.s rfl rfl rfl (fun _ => rfl) ?_
            refine mm_E.s rfl rfl rfl (fun _ => rfl) ?_
            refine mm_E.s rfl rfl rfl (fun _ => if_pos hA) ?_
            refine mm_E.s rfl rfl rfl (fun _ => rfl) ?_
            refine mm_E.gf rfl rfl rfl hO2 rfl ?_
            refine mm_E.s rfl rfl rfl (fun _ => rfl) ?_
            refine mm_E.s rfl rfl rfl (fun _ => rfl) ?_
            refine mm_E.s rfl rfl rfl (fun _ => rfl) ?_
            refine mm_E.s rfl rfl rfl (fun _ => rfl) ?_
            refine mm_E.s rfl rfl rfl (fun _ => rfl) ?_
            refine mm_E.ti _ (x_ix n (t + 1)) ?_
            refine mm_E.za rfl rfl hH2 (mm_bd (by omega) (by decide)) (v := 0) (by rw [mm_cl (by omega), x_su_at]; exact h0) ?_
            refine mm_E.s rfl rfl rfl (fun _ => rfl) ?_
            refine mm_E.s rfl rfl rfl (fun _ => rfl) ?_
            refine mm_E.gf rfl rfl rfl hO2 rfl ?_
            refine mm_E.s rfl rfl rfl (fun _ => rfl) ?_
            refine mm_E.s rfl rfl rfl (fun _ => rfl) ?_
            refine mm_E.s rfl rfl rfl (fun _ => rfl) ?_
            refine mm_E.s rfl rfl rfl (fun _ => rfl) ?_
            refine mm_E.s rfl rfl rfl (fun _ => rfl) ?_
            refine mm_E.ti _ (x_ix n (t + 1)) ?_
            refine mm_E.s rfl rfl rfl (fun _ => rfl) ?_
            refine mm_E.zs rfl rfl hH2 (mm_bd (by omega) (by decide)) (mm_put_some _ _ _ (by simpa using l26)) ?_
            rw [mm_cl (by omega)]
            refine mm_E.s rfl rfl rfl (fun _ => rfl) ?_
            refine mm_E.gf rfl rfl rfl hO3 rfl ?_
            refine mm_E.s rfl rfl rfl (fun _ => rfl) ?_
            refine mm_E.s rfl rfl rfl (fun _ => rfl) ?_
            refine mm_E.s rfl rfl rfl (fun _ => rfl) ?_
            refine mm_E.s rfl rfl rfl (fun _ => rfl) ?_
            refine mm_E.s rfl rfl rfl (fun _ => rfl) ?_
            refine mm_E.ti _ (x_ix n (t + 1)) ?_
            refine mm_E.s rfl rfl rfl (fun _ => rfl) ?_
            refine mm_E.is rfl rfl h27b (mm_bd (by omega) (by decide)) (mm_put_some _ _ _ (by simpa using l27)) ?_
            rw [mm_cl (by omega)]
            refine mm_E.s rfl rfl rfl (fun _ => rfl) ?_
            refine mm_E.s rfl rfl rfl (fun _ => rfl) ?_
            refine mm_E.s rfl rfl rfl (fun _ => rfl) ?_
            refine mm_E.hc _ ?_ ih
            rw [List.set_comm _ _ (show (27 : Nat) ≠ 26 by decide), List.set_set, List.set_set]
            rfl
          · rw [show x_mw has n s (t + 1) = x_mw has n s t from if_neg (fun q => h0 q.2), x_su_n has 1 (fun q => h0 q.2), x_su_n kept 0 (fun q => h0 q.2)] at ih
            refine mm_E.s rfl rfl rfl (fun _ => rfl) ?_
            refine mm_E.s rfl rfl rfl (fun _ => rfl) ?_
            refine mm_E.s rfl rfl rfl (fun _ => if_neg (nI_nlt (a := s) (b := t + 1) (by omega) (by omega))) ?_
            refine mm_E.s rfl rfl rfl (fun _ => rfl) ?_
            refine mm_E.s rfl rfl rfl (fun _ => rfl) ?_
            refine mm_E.s rfl rfl rfl (fun _ => rfl) ?_
            refine mm_E.s rfl rfl rfl (fun _ => rfl) ?_
            refine mm_E.s rfl rfl rfl (fun _ => rfl) ?_
            refine mm_E.s rfl rfl rfl (fun _ => if_pos hA) ?_
            refine mm_E.s rfl rfl rfl (fun _ => rfl) ?_
            refine mm_E.gf rfl rfl rfl hO2 rfl ?_
            refine mm_E.s rfl rfl rfl (fun _ => rfl) ?_
            refine mm_E.s rfl rfl rfl (fun _ => rfl) ?_
            refine mm_E.s rfl rfl rfl (fun _ => rfl) ?_
            refine mm_E.s rfl rfl rfl (fun _ => rfl) ?_
            refine mm_E.s rfl rfl rfl (fun _ => rfl) ?_
            refine mm_E.ti _ (x_ix n (t + 1)) ?_
            refine mm_E.za rfl rfl hH2 (mm_bd (by omega) (by decide)) (v := has (256 * n + (t + 1))) (by rw [mm_cl (by omega), x_su_at]) ?_
            refine mm_E.s rfl rfl rfl (fun _ => if_neg h0) ?_
            refine mm_E.s rfl rfl rfl (fun _ => rfl) ?_
            refine mm_E.s rfl rfl rfl (fun _ => rfl) ?_
            exact ih
        · rw [show x_mw has n s (t + 1) = x_mw has n s t from if_neg (fun q => hA q.1), x_su_n has 1 (fun q => hA q.1), x_su_n kept 0 (fun q => hA q.1)] at ih
          refine mm_E.s rfl rfl rfl (fun _ => rfl) ?_
          refine mm_E.s rfl rfl rfl (fun _ => rfl) ?_
          refine mm_E.s rfl rfl rfl (fun _ => if_neg (nI_nlt (a := s) (b := t + 1) (by omega) (by omega))) ?_
          refine mm_E.s rfl rfl rfl (fun _ => rfl) ?_
          refine mm_E.s rfl rfl rfl (fun _ => rfl) ?_
          refine mm_E.s rfl rfl rfl (fun _ => rfl) ?_
          refine mm_E.s rfl rfl rfl (fun _ => rfl) ?_
          refine mm_E.s rfl rfl rfl (fun _ => rfl) ?_
          refine mm_E.s rfl rfl rfl (fun _ => if_neg hA) ?_
          refine mm_E.s rfl rfl rfl (fun _ => rfl) ?_
          refine mm_E.s rfl rfl rfl (fun _ => rfl) ?_
          exact ih
    | succ d ih =>
      intro k y4 y5 hk
      refine g_addK hO hH hn hs1 hs (by omega) ?_
      have b1 := x_mn_le has n (nI k) 255
      have b2 := x_an_le has n s (nI k) s
      have z := ih (k + 1) (some (.int (nI (x_mn has n (nI k) 255 + x_an has n s (nI k) s)))) (some (.int (nI (s + 1)))) (by omega)
      rw [← nI_1] at z
      refine mm_E.s rfl rfl rfl (fun _ => rfl) ?_
      refine mm_E.s rfl rfl rfl (fun _ => rfl) ?_
      refine mm_E.s rfl rfl rfl (fun _ => if_pos ((x_le24 _ (by omega)).mpr (hf k (by omega)))) ?_
      refine mm_E.s rfl rfl rfl (fun _ => rfl) ?_
      refine mm_E.s rfl rfl rfl (fun _ => rfl) ?_
      exact z
  exact key 4 0 none none rfl

