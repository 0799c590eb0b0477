/-- vertices of a ahead of the vertex g, among the first v -/
def x_bf (a g : Int32) : Nat → Int32
  | 0 => 0
  | v + 1 => if ((a >>> (nI v &&& 31)) &&& 1) = 1 ∧ ¬ g ≤ (1 : Int32) <<< (nI v &&& 31) then x_bf a g v + 1 else x_bf a g v
/-- the model's sign -/
def x_sg (a b : Int32) : Int32 := if (b &&& (a ^^^ (Int32.ofInt (-1)))) = 0 ∧ ¬ b = 0 ∧ x_sz8 b 8 = x_sz8 a 8 - 1 then (if x_bf a (a &&& (b ^^^ (Int32.ofInt (-1)))) 8 - x_bf a (a &&& (b ^^^ (Int32.ofInt (-1)))) 8 / 2 * 2 = 0 then 1 else -1) else 0
theorem g_sign {h : mm_H} (a b : Int32) : mm_EC kM 71 [.int a, .int b] h (some (.int (x_sg a b)), h) := by
  refine ⟨kq_71, rfl, rfl, ?_⟩
  by_cases h1 : (b &&& (a ^^^ (Int32.ofInt (-1)))) = 0
  · by_cases h2 : b = 0
    · rw [show x_sg a b = 0 from if_neg (fun q => q.2.1 h2)]
      refine mm_E.s rfl rfl rfl (fun _ => rfl) ?_
      refine mm_E.s rfl rfl rfl (fun _ => rfl) ?_
      refine mm_E.s rfl rfl rfl (fun _ => rfl) ?_
      refine mm_E.s rfl rfl rfl (fun _ => rfl) ?_
      refine mm_E.s rfl rfl rfl (fun _ => rfl) ?_
      refine mm_E.s rfl rfl rfl (fun _ => if_pos h1) ?_
      refine mm_E.s rfl rfl rfl (fun _ => rfl) ?_
      refine mm_E.s rfl rfl rfl (fun _ => if_pos h2) ?_
      refine mm_E.s rfl rfl rfl (fun _ => rfl) ?_
      exact mm_E.ret rfl rfl rfl
    · by_cases h3 : x_sz8 b 8 = x_sz8 a 8 - 1
      · generalize hg : a &&& (b ^^^ (Int32.ofInt (-1))) = g
        have hfin : mm_E kM none 71 38 [some (.int a), some (.int b), some (.int g), some (.int (x_bf a g 8)), some (.int (nI 8))] [] h (some (.int (x_sg a b)), h) := by
          by_cases h4 : x_bf a g 8 - x_bf a g 8 / 2 * 2 = 0
          · rw [show x_sg a b = 1 from (if_pos ⟨h1, h2, h3⟩).trans (if_pos (by rw [hg]; exact h4))]
            refine mm_E.s rfl rfl rfl (fun _ => rfl) ?_
            refine mm_E.s rfl rfl rfl (fun _ => rfl) ?_
            refine mm_E.s rfl rfl rfl (fun _ => rfl) ?_
            refine mm_E.s rfl rfl rfl (fun _ => rfl) ?_
            refine mm_E.s rfl rfl rfl (fun _ => rfl) ?_
            refine mm_E.s rfl rfl rfl (fun _ => rfl) ?_
            refine mm_E.s rfl rfl rfl (fun _ => if_pos h4) ?_
            refine mm_E.s rfl rfl rfl (fun _ => rfl) ?_
            refine mm_E.s rfl rfl rfl (fun _ => rfl) ?_
            exact mm_E.ret rfl rfl rfl
          · rw [show x_sg a b = -1 from (if_pos ⟨h1, h2, h3⟩).trans (if_neg (by rw [hg]; exact h4))]
            refine mm_E.s rfl rfl rfl (fun _ => rfl) ?_
            refine mm_E.s rfl rfl rfl (fun _ => rfl) ?_
            refine mm_E.s rfl rfl rfl (fun _ => rfl) ?_
            refine mm_E.s rfl rfl rfl (fun _ => rfl) ?_
            refine mm_E.s rfl rfl rfl (fun _ => rfl) ?_
            refine mm_E.s rfl rfl rfl (fun _ => rfl) ?_
            refine mm_E.s rfl rfl rfl (fun _ => if_neg h4) ?_
            refine mm_E.s rfl rfl rfl (fun _ => rfl) ?_
            exact mm_E.ret rfl rfl rfl
        refine mm_E.s rfl rfl rfl (fun _ => rfl) ?_
        refine mm_E.s rfl rfl rfl (fun _ => rfl) ?_
        refine mm_E.s rfl rfl rfl (fun _ => rfl) ?_
        refine mm_E.s rfl rfl rfl (fun _ => rfl) ?_
        refine mm_E.s rfl rfl rfl (fun _ => rfl) ?_
        refine mm_E.s rfl rfl rfl (fun _ => if_pos h1) ?_
        refine mm_E.s rfl rfl rfl (fun _ => rfl) ?_
        refine mm_E.s rfl rfl rfl (fun _ => if_neg h2) ?_
        refine mm_E.s rfl rfl rfl (fun _ => rfl) ?_
        refine mm_E.ic rfl rfl rfl rfl rfl (x_size _) ?_
        refine mm_E.s rfl rfl rfl (fun _ => rfl) ?_
        refine mm_E.ic rfl rfl rfl rfl rfl (x_size _) ?_
        refine mm_E.s rfl rfl rfl (fun _ => rfl) ?_
        refine mm_E.s rfl rfl rfl (fun _ => rfl) ?_
        refine mm_E.s rfl rfl rfl (fun _ => if_pos h3) ?_
        refine mm_E.s rfl rfl rfl (fun _ => rfl) ?_
        refine mm_E.s rfl rfl rfl (fun _ => rfl) ?_
        refine mm_E.s rfl rfl rfl (fun _ => rfl) ?_
        refine mm_E.s rfl rfl rfl (fun _ => rfl) ?_
        refine mm_E.s rfl rfl rfl (fun _ => rfl) ?_
        refine mm_E.ti g hg ?_
        refine mm_E.s rfl rfl rfl (fun _ => rfl) ?_
        refine mm_E.s rfl rfl rfl (fun _ => rfl) ?_
        refine mm_E.s rfl rfl rfl (fun _ => rfl) ?_
        refine mm_E.s rfl rfl rfl (fun _ => rfl) ?_
        refine mm_E.s rfl rfl rfl (fun _ => rfl) ?_
        refine mm_E.loop (fun t => [some (.int a), some (.int b), some (.int g), some (.int (x_bf a g t)), some (.int (nI t))]) (fun _ => h) 8 hfin ?_
        intro t ht ih
        rw [← nI_1] at ih
        by_cases h5 : ((a >>> (nI t &&& 31)) &&& 1) = 1
        · by_cases h6 : g ≤ (1 : Int32) <<< (nI t &&& 31)
          · rw [show x_bf a g (t + 1) = x_bf a g t from if_neg (fun q => q.2 h6)] at ih
            refine mm_E.s rfl rfl rfl (fun _ => rfl) ?_
            refine mm_E.s rfl rfl rfl (fun _ => rfl) ?_
            refine mm_E.s rfl rfl rfl (fun _ => if_neg (nI_ge (a := t) (b := 8) (by omega) (by decide))) ?_
            refine mm_E.s rfl rfl rfl (fun _ => rfl) ?_
            refine mm_E.s rfl rfl rfl (fun _ => rfl) ?_
            refine mm_E.s rfl rfl rfl (fun _ => rfl) ?_
            refine mm_E.s rfl rfl rfl (fun _ => rfl) ?_
            refine mm_E.s rfl rfl rfl (fun _ => rfl) ?_
            refine mm_E.s rfl rfl rfl (fun _ => rfl) ?_
            refine mm_E.s rfl rfl rfl (fun _ => if_pos h5) ?_
            refine mm_E.s rfl rfl rfl (fun _ => rfl) ?_
            refine mm_E.s rfl rfl rfl (fun _ => rfl) ?_
            refine mm_E.s rfl rfl rfl (fun _ => rfl) ?_
            refine mm_E.s rfl rfl rfl (fun _ => rfl) ?_
            refine mm_E.s rfl rfl rfl (fun _ => if_pos h6) ?_
            refine mm_E.s rfl rfl rfl (fun _ => rfl) ?_
            refine mm_E.s rfl rfl rfl (fun _ => rfl) ?_
            refine mm_E.s rfl rfl rfl (fun _ => rfl) ?_
            refine mm_E.s rfl rfl rfl (fun _ => rfl) ?_
            exact ih
          · rw [show x_bf a g (t + 1) = x_bf a g t + 1 from if_pos ⟨h5, h6⟩] at ih
            refine mm_E.s rfl rfl rfl (fun _ => rfl) ?_
            refine mm_E.s rfl rfl rfl (fun _ => rfl) ?_
            refine mm_E.s rfl rfl rfl (fun _ => if_neg (nI_ge (a := t) (b := 8) (by omega) (by decide))) ?_
            refine mm_E.s rfl rfl rfl (fun _ => rfl) ?_
            refine mm_E.s rfl rfl rfl (fun _ => rfl) ?_
            refine mm_E.s rfl rfl rfl (fun _ => rfl) ?_
            refine mm_E.s rfl rfl rfl (fun _ => rfl) ?_
            refine mm_E.s rfl rfl rfl (fun _ => rfl) ?_
            refine mm_E.s rfl rfl rfl (fun _ => rfl) ?_
            refine mm_E.s rfl rfl rfl (fun _ => if_pos h5) ?_
            refine mm_E.s rfl rfl rfl (fun _ => rfl) ?_
            refine mm_E.s rfl rfl rfl (fun _ => rfl) ?_
            refine mm_E.s rfl rfl rfl (fun _ => rfl) ?_
            refine mm_E.s rfl rfl rfl (fun _ => rfl) ?_
            refine mm_E.s rfl rfl rfl (fun _ => if_neg h6) ?_
            refine mm_E.s rfl rfl rfl (fun _ => rfl) ?_
            refine mm_E.s rfl rfl rfl (fun _ => rfl) ?_
            refine mm_E.s rfl rfl rfl (fun _ => rfl) ?_
            refine mm_E.s rfl rfl rfl (fun _ => rfl) ?_
            refine mm_E.s rfl rfl rfl (fun _ => rfl) ?_
            refine mm_E.s rfl rfl rfl (fun _ => rfl) ?_
            refine mm_E.s rfl rfl rfl (fun _ => rfl) ?_
            exact ih
        · rw [show x_bf a g (t + 1) = x_bf a g t from if_neg (fun q => h5 q.1)] at ih
          refine mm_E.s rfl rfl rfl (fun _ => rfl) ?_
          refine mm_E.s rfl rfl rfl (fun _ => rfl) ?_
          refine mm_E.s rfl rfl rfl (fun _ => if_neg (nI_ge (a := t) (b := 8) (by omega) (by decide))) ?_
          refine mm_E.s rfl rfl rfl (fun _ => rfl) ?_
          refine mm_E.s rfl rfl rfl (fun _ => rfl) ?_
          refine mm_E.s rfl rfl rfl (fun _ => rfl) ?_
          refine mm_E.s rfl rfl rfl (fun _ => rfl) ?_
          refine mm_E.s rfl rfl rfl (fun _ => rfl) ?_
          refine mm_E.s rfl rfl rfl (fun _ => rfl) ?_
          refine mm_E.s rfl rfl rfl (fun _ => if_neg h5) ?_
          refine mm_E.s rfl rfl rfl (fun _ => rfl) ?_
          refine mm_E.s rfl rfl rfl (fun _ => rfl) ?_
          refine mm_E.s rfl rfl rfl (fun _ => rfl) ?_
          refine mm_E.s rfl rfl rfl (fun _ => rfl) ?_
          exact ih
      · rw [show x_sg a b = 0 from if_neg (fun q => h3 q.2.2)]
        refine mm_E.s rfl rfl rfl (fun _ => rfl) ?_
        refine mm_E.s rfl rfl rfl (fun _ => rfl) ?_
        refine mm_E.s rfl rfl rfl (fun _ => rfl) ?_
        refine mm_E.s rfl rfl rfl (fun _ => rfl) ?_
        refine mm_E.s rfl rfl rfl (fun _ => rfl) ?_
        refine mm_E.s rfl rfl rfl (fun _ => if_pos h1) ?_
        refine mm_E.s rfl rfl rfl (fun _ => rfl) ?_
        refine mm_E.s rfl rfl rfl (fun _ => if_neg h2) ?_
        refine mm_E.s rfl rfl rfl (fun _ => rfl) ?_
        refine mm_E.ic rfl rfl rfl rfl rfl (x_size _) ?_
        refine mm_E.s rfl rfl rfl (fun _ => rfl) ?_
        refine mm_E.ic rfl rfl rfl rfl rfl (x_size _) ?_
        refine mm_E.s rfl rfl rfl (fun _ => rfl) ?_
        refine mm_E.s rfl rfl rfl (fun _ => rfl) ?_
        refine mm_E.s rfl rfl rfl (fun _ => if_neg h3) ?_
        refine mm_E.s rfl rfl rfl (fun _ => rfl) ?_
        exact mm_E.ret rfl rfl rfl
  · rw [show x_sg a b = 0 from if_neg (fun q => h1 q.1)]
    refine mm_E.s rfl rfl rfl (fun _ => rfl) ?_
    refine mm_E.s rfl rfl rfl (fun _ => rfl) ?_
    refine mm_E.s rfl rfl rfl (fun _ => rfl) ?_
    refine mm_E.s rfl rfl rfl (fun _ => rfl) ?_
    refine mm_E.s rfl rfl rfl (fun _ => rfl) ?_
    refine mm_E.s rfl rfl rfl (fun _ => if_neg h1) ?_
    refine mm_E.s rfl rfl rfl (fun _ => rfl) ?_
    exact mm_E.ret rfl rfl rfl

theorem g_inc {h : mm_H} {ro co di tr : Int32} {has : Nat → Int32} (hO : mm_nth h 25 = some (x_mo ro co di tr)) (hH : mm_nth h 26 = some (x_ha has)) (c k i j : Int32) : mm_EC kM 76 [.ref 25, .int c, .int k, .int i, .int j] h (some (.int (if (c = 0 ∨ c = 1) ∧ (¬ k < 1 ∧ ¬ 3 < k) ∧ ¬ i < 0 ∧ 0 ≤ j then x_sg (x_at has c.toNatClampNeg k 255 1 j) (x_at has c.toNatClampNeg (k - 1) 255 1 i) else 0)), h) := by
  refine ⟨kq_76, rfl, rfl, ?_⟩
  by_cases hc : c = 0 ∨ c = 1
  · by_cases h1 : k < 1
    · rw [if_neg (fun q => q.2.1.1 h1)]
      refine mm_E.s rfl rfl rfl (fun _ => rfl) ?_
      refine mm_E.ic rfl rfl rfl rfl rfl (x_isC1 hc) ?_
      refine mm_E.s rfl rfl rfl (fun _ => rfl) ?_
      refine mm_E.s rfl rfl rfl (fun _ => rfl) ?_
      refine mm_E.s rfl rfl rfl (fun _ => rfl) ?_
      refine mm_E.s rfl rfl rfl (fun _ => if_pos h1) ?_
      refine mm_E.s rfl rfl rfl (fun _ => rfl) ?_
      exact mm_E.ret rfl rfl rfl
    · by_cases h3 : 3 < k
      · rw [if_neg (fun q => q.2.1.2 h3)]
        refine mm_E.s rfl rfl rfl (fun _ => rfl) ?_
        refine mm_E.ic rfl rfl rfl rfl rfl (x_isC1 hc) ?_
        refine mm_E.s rfl rfl rfl (fun _ => rfl) ?_
        refine mm_E.s rfl rfl rfl (fun _ => rfl) ?_
        refine mm_E.s rfl rfl rfl (fun _ => rfl) ?_
        refine mm_E.s rfl rfl rfl (fun _ => if_neg h1) ?_
        refine mm_E.s rfl rfl rfl (fun _ => rfl) ?_
        refine mm_E.s rfl rfl rfl (fun _ => rfl) ?_
        refine mm_E.s rfl rfl rfl (fun _ => if_pos h3) ?_
        refine mm_E.s rfl rfl rfl (fun _ => rfl) ?_
        exact mm_E.ret rfl rfl rfl
      · by_cases hi : i < 0
        · rw [if_neg (fun q => q.2.2.1 hi)]
          refine mm_E.s rfl rfl rfl (fun _ => rfl) ?_
          refine mm_E.ic rfl rfl rfl rfl rfl (x_isC1 hc) ?_
          refine mm_E.s rfl rfl rfl (fun _ => rfl) ?_
          refine mm_E.s rfl rfl rfl (fun _ => rfl) ?_
          refine mm_E.s rfl rfl rfl (fun _ => rfl) ?_
          refine mm_E.s rfl rfl rfl (fun _ => if_neg h1) ?_
          refine mm_E.s rfl rfl rfl (fun _ => rfl) ?_
          refine mm_E.s rfl rfl rfl (fun _ => rfl) ?_
          refine mm_E.s rfl rfl rfl (fun _ => if_neg h3) ?_
          refine mm_E.s rfl rfl rfl (fun _ => rfl) ?_
          refine mm_E.s rfl rfl rfl (fun _ => if_pos hi) ?_
          refine mm_E.s rfl rfl rfl (fun _ => rfl) ?_
          exact mm_E.ret rfl rfl rfl
        · by_cases hj : 0 ≤ j
          · rw [if_pos ⟨hc, ⟨h1, h3⟩, hi, hj⟩]
            obtain ⟨n, hn, rfl⟩ := x_c01 hc
            rw [mm_cl (by omega)]
            refine mm_E.s rfl rfl rfl (fun _ => rfl) ?_
            refine mm_E.ic rfl rfl rfl rfl rfl (x_isC1 hc) ?_
            refine mm_E.s rfl rfl rfl (fun _ => rfl) ?_
            refine mm_E.s rfl rfl rfl (fun _ => rfl) ?_
            refine mm_E.s rfl rfl rfl (fun _ => rfl) ?_
            refine mm_E.s rfl rfl rfl (fun _ => if_neg h1) ?_
            refine mm_E.s rfl rfl rfl (fun _ => rfl) ?_
            refine mm_E.s rfl rfl rfl (fun _ => rfl) ?_
            refine mm_E.s rfl rfl rfl (fun _ => if_neg h3) ?_
            refine mm_E.s rfl rfl rfl (fun _ => rfl) ?_
            refine mm_E.s rfl rfl rfl (fun _ => if_neg hi) ?_
            refine mm_E.s rfl rfl rfl (fun _ => rfl) ?_
            refine mm_E.s rfl rfl rfl (fun _ => if_pos hj) ?_
            refine mm_E.s rfl rfl rfl (fun _ => rfl) ?_
            refine mm_E.s rfl rfl rfl (fun _ => rfl) ?_
            refine mm_E.s rfl rfl rfl (fun _ => rfl) ?_
            refine mm_E.s rfl rfl rfl (fun _ => rfl) ?_
            refine mm_E.iv rfl rfl rfl rfl hO rfl (g_at hO hH hn k j) ?_
            refine mm_E.s rfl rfl rfl (fun _ => rfl) ?_
            refine mm_E.s rfl rfl rfl (fun _ => rfl) ?_
            refine mm_E.s rfl rfl rfl (fun _ => rfl) ?_
            refine mm_E.s rfl rfl rfl (fun _ => rfl) ?_
            refine mm_E.s rfl rfl rfl (fun _ => rfl) ?_
            refine mm_E.s rfl rfl rfl (fun _ => rfl) ?_
            refine mm_E.iv rfl rfl rfl rfl hO rfl (g_at hO hH hn (k - 1) i) ?_
            refine mm_E.ic rfl rfl rfl rfl rfl (g_sign _ _) ?_
            exact mm_E.ret rfl rfl rfl
          · rw [if_neg (fun q => hj q.2.2.2)]
            refine mm_E.s rfl rfl rfl (fun _ => rfl) ?_
            refine mm_E.ic rfl rfl rfl rfl rfl (x_isC1 hc) ?_
            refine mm_E.s rfl rfl rfl (fun _ => rfl) ?_
            refine mm_E.s rfl rfl rfl (fun _ => rfl) ?_
            refine mm_E.s rfl rfl rfl (fun _ => rfl) ?_
            refine mm_E.s rfl rfl rfl (fun _ => if_neg h1) ?_
            refine mm_E.s rfl rfl rfl (fun _ => rfl) ?_
            refine mm_E.s rfl rfl rfl (fun _ => rfl) ?_
            refine mm_E.s rfl rfl rfl (fun _ => if_neg h3) ?_
            refine mm_E.s rfl rfl rfl (fun _ => rfl) ?_
            refine mm_E.s rfl rfl rfl (fun _ => if_neg hi) ?_
            refine mm_E.s rfl rfl rfl (fun _ => rfl) ?_
            refine mm_E.s rfl rfl rfl (fun _ => if_neg hj) ?_
            refine mm_E.s rfl rfl rfl (fun _ => rfl) ?_
            exact mm_E.ret rfl rfl rfl
  · rw [if_neg (fun q => hc q.1)]
    refine mm_E.s rfl rfl rfl (fun _ => rfl) ?_
    refine mm_E.ic rfl rfl rfl rfl rfl (x_isC0 hc) ?_
    refine mm_E.s rfl rfl rfl (fun _ => rfl) ?_
    refine mm_E.s rfl rfl rfl (fun _ => rfl) ?_
    exact mm_E.ret rfl rfl rfl

def x_bd (has kept : Nat → Int32) (n : Nat) (s : Int32) : Nat → Int32
  | 0 => 0
  | t + 1 => if has (256 * n + (t + 1)) = 0 then x_bd has kept n s t else x_bd has kept n s t + x_sg (nI (t + 1)) s * kept (256 * n + (t + 1))
theorem g_bd {h : mm_H} {ro co di tr : Int32} {has : Nat → Int32} (hO : mm_nth h 25 = some (x_mo ro co di tr)) (hH : mm_nth h 26 = some (x_ha has)) {kept : Nat → Int32} (h27 : mm_nth h 27 = some (x_it 512 kept)) (c s : Int32) : mm_EC kM 98 [.ref 25, .int c, .int s] h (some (.int (if x_is has c s then x_bd has kept c.toNatClampNeg s 255 else 0)), h) := by
  refine ⟨kq_98, rfl, rfl, ?_⟩
  by_cases hs : x_is has c s
  · rw [if_pos hs]
    have E1 := g_is1 hO hH hs
    obtain ⟨n, hn, rfl⟩ := x_c01 hs.1
    rw [mm_cl (by omega)]
    refine mm_E.s rfl rfl rfl (fun _ => rfl) ?_
    refine mm_E.s rfl rfl rfl (fun _ => rfl) ?_
    refine mm_E.s rfl rfl rfl (fun _ => rfl) ?_
    refine mm_E.s rfl rfl rfl (fun _ => rfl) ?_
    refine mm_E.s rfl rfl rfl (fun _ => rfl) ?_
    refine mm_E.iv rfl rfl rfl rfl hO rfl E1 ?_
    refine mm_E.s rfl rfl rfl (fun _ => rfl) ?_
    refine mm_E.s rfl rfl rfl (fun _ => rfl) ?_
    refine mm_E.s rfl rfl rfl (fun _ => rfl) ?_
    refine mm_E.loop (fun t => [some (.ref 25), some (.int (nI n)), some (.int s), some (.int (x_bd has kept n s t)), some (.int (nI (t + 1)))]) (fun _ => h) 255 ?_ ?_
    · skip
      refine mm_E.s rfl rfl rfl (fun _ => rfl) ?_
      refine mm_E.s rfl rfl rfl (fun _ => rfl) ?_
      refine mm_E.s rfl rfl rfl (fun _ => rfl) ?_
      refine mm_E.s rfl rfl rfl (fun _ => rfl) ?_
      exact mm_E.ret rfl rfl rfl
    · intro t ht ih
      rw [← nI_1] at ih
      refine mm_E.s rfl rfl rfl (fun _ => rfl) ?_
      refine mm_E.s rfl rfl rfl (fun _ => rfl) ?_
      refine mm_E.s rfl rfl rfl (fun _ => if_neg (nI_ge (a := t + 1) (b := 256) (by omega) (by decide))) ?_
      refine mm_E.s rfl rfl rfl (fun _ => rfl) ?_
      refine mm_E.gf rfl rfl rfl hO rfl ?_
      refine mm_E.s rfl rfl rfl (fun _ => rfl) ?_
      refine mm_E.s rfl rfl rfl (fun _ => rfl) ?_
      refine mm_E.s rfl rfl rfl (fun _ => rfl) ?_
      refine mm_E.s rfl rfl rfl (fun _ => rfl) ?_
      refine mm_E.s rfl rfl rfl (fun _ => rfl) ?_
      refine mm_E.ti _ (x_ix n (t + 1)) ?_
      by_cases h0 : has (256 * n + (t + 1)) = 0
      · rw [show x_bd has kept n s (t + 1) = x_bd has kept n s t from if_pos h0] at ih
        refine mm_E.za rfl rfl hH (mm_bd (by omega) (by decide)) (v := has (256 * n + (t + 1))) (by rw [mm_cl (by omega)]) ?_
        refine mm_E.s rfl rfl rfl (fun _ => if_pos h0) ?_
        refine mm_E.s rfl rfl rfl (fun _ => rfl) ?_
        refine mm_E.s rfl rfl rfl (fun _ => rfl) ?_
        refine mm_E.s rfl rfl rfl (fun _ => rfl) ?_
        refine mm_E.s rfl rfl rfl (fun _ => rfl) ?_
        exact ih
      · rw [show x_bd has kept n s (t + 1) = _ from if_neg h0] at ih
        refine mm_E.za rfl rfl hH (mm_bd (by omega) (by decide)) (v := has (256 * n + (t + 1))) (by rw [mm_cl (by omega)]) ?_
        refine mm_E.s rfl rfl rfl (fun _ => if_neg h0) ?_
        refine mm_E.s rfl rfl rfl (fun _ => rfl) ?_
        refine mm_E.s rfl rfl rfl (fun _ => rfl) ?_
        refine mm_E.s rfl rfl rfl (fun _ => rfl) ?_
        refine mm_E.ic rfl rfl rfl rfl rfl (g_sign _ _) ?_
        refine mm_E.s rfl rfl rfl (fun _ => rfl) ?_
        refine mm_E.gf rfl rfl rfl hO rfl ?_
        refine mm_E.s rfl rfl rfl (fun _ => rfl) ?_
        refine mm_E.s rfl rfl rfl (fun _ => rfl) ?_
        refine mm_E.s rfl rfl rfl (fun _ => rfl) ?_
        refine mm_E.s rfl rfl rfl (fun _ => rfl) ?_
        refine mm_E.s rfl rfl rfl (fun _ => rfl) ?_
        refine mm_E.ti _ (x_ix n (t + 1)) ?_
        refine mm_E.ia rfl rfl h27 (mm_bd (by omega) (by decide)) (v := kept (256 * n + (t + 1))) (by rw [mm_cl (by omega)]) ?_
        refine mm_E.s rfl rfl rfl (fun _ => rfl) ?_
        refine mm_E.s rfl rfl rfl (fun _ => rfl) ?_
        refine mm_E.s rfl rfl rfl (fun _ => rfl) ?_
        refine mm_E.s rfl rfl rfl (fun _ => rfl) ?_
        refine mm_E.s rfl rfl rfl (fun _ => rfl) ?_
        refine mm_E.s rfl rfl rfl (fun _ => rfl) ?_
        exact ih
  · rw [if_neg hs]
    refine mm_E.s rfl rfl rfl (fun _ => rfl) ?_
    refine mm_E.s rfl rfl rfl (fun _ => rfl) ?_
    refine mm_E.s rfl rfl rfl (fun _ => rfl) ?_
    refine mm_E.s rfl rfl rfl (fun _ => rfl) ?_
    refine mm_E.s rfl rfl rfl (fun _ => rfl) ?_
    refine mm_E.iv rfl rfl rfl rfl hO rfl (g_is0 hO hH hs) ?_
    refine mm_E.s rfl rfl rfl (fun _ => rfl) ?_
    refine mm_E.s rfl rfl rfl (fun _ => rfl) ?_
    exact mm_E.ret rfl rfl rfl

theorem g_map1 {h : mm_H} {ro co di tr : Int32} {f : Nat → Int32} (hO : mm_nth h 25 = some (x_mo ro co di tr)) (h28 : mm_nth h 28 = some (x_it 8 f)) {v u : Int32} (hv : (¬ v < 0 ∧ ¬ 7 < v) ∧ ¬ u < 0 ∧ u ≤ 7) : mm_EC kM 102 [.ref 25, .int v, .int u] h (some (.int 1), h.set 28 (x_it 8 (upd f v.toNatClampNeg u))) := by
  obtain ⟨⟨v0, v7⟩, u0, u7⟩ := hv
  obtain ⟨j, hj, rfl⟩ := nI_of2 (x := v) (M := 7) (n := 7) rfl v0 (Int32.not_lt.mp v7)
  refine ⟨kq_102, rfl, rfl, ?_⟩
  refine mm_E.s rfl rfl rfl (fun _ => rfl) ?_
  refine mm_E.s rfl rfl rfl (fun _ => if_neg v0) ?_
  refine mm_E.s rfl rfl rfl (fun _ => rfl) ?_
  refine mm_E.s rfl rfl rfl (fun _ => rfl) ?_
  refine mm_E.s rfl rfl rfl (fun _ => if_neg v7) ?_
  refine mm_E.s rfl rfl rfl (fun _ => rfl) ?_
  refine mm_E.s rfl rfl rfl (fun _ => if_neg u0) ?_
  refine mm_E.s rfl rfl rfl (fun _ => rfl) ?_
  refine mm_E.s rfl rfl rfl (fun _ => rfl) ?_
  refine mm_E.s rfl rfl rfl (fun _ => if_pos u7) ?_
  refine mm_E.s rfl rfl rfl (fun _ => rfl) ?_
  refine mm_E.gf rfl rfl rfl hO rfl ?_
  refine mm_E.s rfl rfl rfl (fun _ => rfl) ?_
  refine mm_E.s rfl rfl rfl (fun _ => rfl) ?_
  refine mm_E.is rfl rfl h28 (mm_bd (by omega) (by decide)) (mm_put_some _ _ _ (mm_nth_lt h28)) ?_
  refine mm_E.s rfl rfl rfl (fun _ => rfl) ?_
  exact mm_E.ret rfl rfl rfl
theorem g_map0 {h : mm_H} {v u : Int32} (hv : ¬ ((¬ v < 0 ∧ ¬ 7 < v) ∧ ¬ u < 0 ∧ u ≤ 7)) : mm_EC kM 102 [.ref 25, .int v, .int u] h (some (.int 0), h) := by
  refine ⟨kq_102, rfl, rfl, ?_⟩
  by_cases v0 : v < 0
  · skip
    refine mm_E.s rfl rfl rfl (fun _ => rfl) ?_
    refine mm_E.s rfl rfl rfl (fun _ => if_pos v0) ?_
    refine mm_E.s rfl rfl rfl (fun _ => rfl) ?_
    exact mm_E.ret rfl rfl rfl
  · by_cases v7 : 7 < v
    · skip
      refine mm_E.s rfl rfl rfl (fun _ => rfl) ?_
      refine mm_E.s rfl rfl rfl (fun _ => if_neg v0) ?_
      refine mm_E.s rfl rfl rfl (fun _ => rfl) ?_
      refine mm_E.s rfl rfl rfl (fun _ => rfl) ?_
      refine mm_E.s rfl rfl rfl (fun _ => if_pos v7) ?_
      refine mm_E.s rfl rfl rfl (fun _ => rfl) ?_
      exact mm_E.ret rfl rfl rfl
    · by_cases u0 : u < 0
      · skip
        refine mm_E.s rfl rfl rfl (fun _ => rfl) ?_
        refine mm_E.s rfl rfl rfl (fun _ => if_neg v0) ?_
        refine mm_E.s rfl rfl rfl (fun _ => rfl) ?_
        refine mm_E.s rfl rfl rfl (fun _ => rfl) ?_
        refine mm_E.s rfl rfl rfl (fun _ => if_neg v7) ?_
        refine mm_E.s rfl rfl rfl (fun _ => rfl) ?_
        refine mm_E.s rfl rfl rfl (fun _ => if_pos u0) ?_
        refine mm_E.s rfl rfl rfl (fun _ => rfl) ?_
        exact mm_E.ret rfl rfl rfl
      · have u7 : ¬ u ≤ 7 := fun q => hv ⟨⟨v0, v7⟩, u0, q⟩
        refine mm_E.s rfl rfl rfl (fun _ => rfl) ?_
        refine mm_E.s rfl rfl rfl (fun _ => if_neg v0) ?_
        refine mm_E.s rfl rfl rfl (fun _ => rfl) ?_
        refine mm_E.s rfl rfl rfl (fun _ => rfl) ?_
        refine mm_E.s rfl rfl rfl (fun _ => if_neg v7) ?_
        refine mm_E.s rfl rfl rfl (fun _ => rfl) ?_
        refine mm_E.s rfl rfl rfl (fun _ => if_neg u0) ?_
        refine mm_E.s rfl rfl rfl (fun _ => rfl) ?_
        refine mm_E.s rfl rfl rfl (fun _ => rfl) ?_
        refine mm_E.s rfl rfl rfl (fun _ => if_neg u7) ?_
        refine mm_E.s rfl rfl rfl (fun _ => rfl) ?_
        exact mm_E.ret rfl rfl rfl

def x_io (f : Nat → Int32) (s : Int32) : Nat → Int32
  | 0 => 0
  | v + 1 => if ((s >>> (nI v &&& 31)) &&& 1) = 1 then x_io f s v ||| (1 : Int32) <<< (f v &&& 31) else x_io f s v
theorem g_io {h : mm_H} {ro co di tr : Int32} {f : Nat → Int32} (hO : mm_nth h 25 = some (x_mo ro co di tr)) (h28 : mm_nth h 28 = some (x_it 8 f)) (s : Int32) : mm_EC kM 103 [.ref 25, .int s] h (some (.int (x_io f s 8)), h) := by
  refine ⟨kq_103, rfl, rfl, ?_⟩
  refine mm_E.s rfl rfl rfl (fun _ => rfl) ?_
  refine mm_E.s rfl rfl rfl (fun _ => rfl) ?_
  refine mm_E.s rfl rfl rfl (fun _ => rfl) ?_
  refine mm_E.s rfl rfl rfl (fun _ => rfl) ?_
  refine mm_E.loop (fun t => [some (.ref 25), some (.int s), some (.int (x_io f s t)), some (.int (nI t))]) (fun _ => h) 8 ?_ ?_
  · skip
    refine mm_E.s rfl rfl rfl (fun _ => rfl) ?_
    refine mm_E.s rfl rfl rfl (fun _ => rfl) ?_
    refine mm_E.s rfl rfl rfl (fun _ => rfl) ?_
    refine mm_E.s rfl rfl rfl (fun _ => rfl) ?_
    exact mm_E.ret rfl rfl rfl
  · intro t ht ih
    rw [← nI_1] at ih
    by_cases h5 : ((s >>> (nI t &&& 31)) &&& 1) = 1
    · rw [show x_io f s (t + 1) = _ from if_pos h5] at ih
      refine mm_E.s rfl rfl rfl (fun _ => rfl) ?_
      refine mm_E.s rfl rfl rfl (fun _ => rfl) ?_
      refine mm_E.s rfl rfl rfl (fun _ => if_neg (nI_ge (a := t) (b := 8) (by omega) (by decide))) ?_
      refine mm_E.s rfl rfl rfl (fun _ => rfl) ?_
      refine mm_E.s rfl rfl rfl (fun _ => rfl) ?_
      refine mm_E.s rfl rfl rfl (fun _ => rfl) ?_
      refine mm_E.s rfl rfl rfl (fun _ => rfl) ?_
      refine mm_E.s rfl rfl rfl (fun _ => rfl) ?_
      refine mm_E.s rfl rfl rfl (fun _ => rfl) ?_
      refine mm_E.s rfl rfl rfl (fun _ => if_pos h5) ?_
      refine mm_E.s rfl rfl rfl (fun _ => rfl) ?_
      refine mm_E.s rfl rfl rfl (fun _ => rfl) ?_
      refine mm_E.s rfl rfl rfl (fun _ => rfl) ?_
      refine mm_E.gf rfl rfl rfl hO rfl ?_
      refine mm_E.s rfl rfl rfl (fun _ => rfl) ?_
      refine mm_E.ia rfl rfl h28 (mm_bd (by omega) (by decide)) (v := f t) (by rw [mm_cl (by omega)]) ?_
      refine mm_E.s rfl rfl rfl (fun _ => rfl) ?_
      refine mm_E.s rfl rfl rfl (fun _ => rfl) ?_
      refine mm_E.s rfl rfl rfl (fun _ => rfl) ?_
      refine mm_E.s rfl rfl rfl (fun _ => rfl) ?_
      refine mm_E.s rfl rfl rfl (fun _ => rfl) ?_
      refine mm_E.s rfl rfl rfl (fun _ => rfl) ?_
      exact ih
    · rw [show x_io f s (t + 1) = x_io f s t from if_neg h5] at ih
      refine mm_E.s rfl rfl rfl (fun _ => rfl) ?_
      refine mm_E.s rfl rfl rfl (fun _ => rfl) ?_
      refine mm_E.s rfl rfl rfl (fun _ => if_neg (nI_ge (a := t) (b := 8) (by omega) (by decide))) ?_
      refine mm_E.s rfl rfl rfl (fun _ => rfl) ?_
      refine mm_E.s rfl rfl rfl (fun _ => rfl) ?_
      refine mm_E.s rfl rfl rfl (fun _ => rfl) ?_
      refine mm_E.s rfl rfl rfl (fun _ => rfl) ?_
      refine mm_E.s rfl rfl rfl (fun _ => rfl) ?_
      refine mm_E.s rfl rfl rfl (fun _ => rfl) ?_
      refine mm_E.s rfl rfl rfl (fun _ => if_neg h5) ?_
      refine mm_E.s rfl rfl rfl (fun _ => rfl) ?_
      refine mm_E.s rfl rfl rfl (fun _ => rfl) ?_
      refine mm_E.s rfl rfl rfl (fun _ => rfl) ?_
      refine mm_E.s rfl rfl rfl (fun _ => rfl) ?_
      exact ih

/-- a map of vertices to vertices -/
abbrev x_fo (f : Nat → Int32) : Prop := ∀ v, v < 8 → ∃ u : Nat, u < 8 ∧ f v = nI u
theorem x_or (a b : Nat) : nI a ||| nI b = nI (a ||| b) := by
  apply Int32.toBitVec_inj.mp
  show (nI a).toBitVec ||| (nI b).toBitVec = (nI (a ||| b)).toBitVec
  apply BitVec.eq_of_toNat_eq
  simp [nI, Int32.toBitVec_ofNat', BitVec.toNat_or, Nat.or_mod_two_pow]
theorem x_sh1 : ∀ u, u < 8 → (1 : Int32) <<< (nI u &&& 31) = nI (2 ^ u) := by decide
theorem x_io_lt {f : Nat → Int32} (hf : x_fo f) (s : Int32) : ∀ t, t ≤ 8 → ∃ m : Nat, m < 256 ∧ x_io f s t = nI m
  | 0, _ => ⟨0, by decide, rfl⟩
  | t + 1, ht => by
    obtain ⟨m, hm, em⟩ := x_io_lt hf s t (by omega)
    by_cases h5 : ((s >>> (nI t &&& 31)) &&& 1) = 1
    · obtain ⟨u, hu, eu⟩ := hf t (by omega)
      rw [show x_io f s (t + 1) = _ from if_pos h5, em, eu, x_sh1 u hu, x_or]
      refine ⟨m ||| 2 ^ u, Nat.or_lt_two_pow (n := 8) hm (Nat.pow_lt_pow_right (by decide) hu), rfl⟩
    · rw [show x_io f s (t + 1) = x_io f s t from if_neg h5]
      exact ⟨m, hm, em⟩
/-- every simplex of complex 0 has its image in complex 1 -/
abbrev x_si (has f : Nat → Int32) : Prop := ∀ q, q < 256 → 1 ≤ q → ¬ has q = 0 → ¬ has (256 + (x_io f (nI q) 8).toNatClampNeg) = 0
theorem x_256p (m : Nat) : (Int16.ofInt 256).toInt32 + nI m = nI (256 + m) := by rw [show ((Int16.ofInt 256).toInt32 : Int32) = nI 256 from rfl, nI_add]
theorem g_si1 {h : mm_H} {ro co di tr : Int32} {has : Nat → Int32} (hO : mm_nth h 25 = some (x_mo ro co di tr)) (hH : mm_nth h 26 = some (x_ha has)) {f : Nat → Int32} (h28 : mm_nth h 28 = some (x_it 8 f)) (hf : x_fo f) (hs : x_si has f) : mm_EC kM 104 [.ref 25] h (some (.int 1), h) := by
  refine ⟨kq_104, rfl, rfl, ?_⟩
  refine mm_E.s rfl rfl rfl (fun _ => rfl) ?_
  refine mm_E.s rfl rfl rfl (fun _ => rfl) ?_
  refine mm_E.loop (fun t => [some (.ref 25), some (.int (nI (t + 1)))]) (fun _ => h) 255 ?_ ?_
  · skip
    refine mm_E.s rfl rfl rfl (fun _ => rfl) ?_
    refine mm_E.s rfl rfl rfl (fun _ => rfl) ?_
    refine mm_E.s rfl rfl rfl (fun _ => rfl) ?_
    refine mm_E.s rfl rfl rfl (fun _ => rfl) ?_
    exact mm_E.ret rfl rfl rfl
  · intro t ht ih
    rw [← nI_1] at ih
    by_cases h0 : has (t + 1) = 0
    · skip
      refine mm_E.s rfl rfl rfl (fun _ => rfl) ?_
      refine mm_E.s rfl rfl rfl (fun _ => rfl) ?_
      refine mm_E.s rfl rfl rfl (fun _ => if_neg (nI_ge (a := t + 1) (b := 256) (by omega) (by decide))) ?_
      refine mm_E.s rfl rfl rfl (fun _ => rfl) ?_
      refine mm_E.gf rfl rfl rfl hO rfl ?_
      refine mm_E.s rfl rfl rfl (fun _ => rfl) ?_
      refine mm_E.za rfl rfl hH (mm_bd (by omega) (by decide)) (v := has (t + 1)) (by rw [mm_cl (by omega)]) ?_
      refine mm_E.s rfl rfl rfl (fun _ => if_pos h0) ?_
      refine mm_E.s rfl rfl rfl (fun _ => rfl) ?_
      refine mm_E.s rfl rfl rfl (fun _ => rfl) ?_
      exact ih
    · obtain ⟨m, hm, em⟩ := x_io_lt hf (nI (t + 1)) 8 (by decide)
      have h1 := hs (t + 1) (by omega) (by omega) h0
      rw [em, mm_cl (by omega)] at h1
      refine mm_E.s rfl rfl rfl (fun _ => rfl) ?_
      refine mm_E.s rfl rfl rfl (fun _ => rfl) ?_
      refine mm_E.s rfl rfl rfl (fun _ => if_neg (nI_ge (a := t + 1) (b := 256) (by omega) (by decide))) ?_
      refine mm_E.s rfl rfl rfl (fun _ => rfl) ?_
      refine mm_E.gf rfl rfl rfl hO rfl ?_
      refine mm_E.s rfl rfl rfl (fun _ => rfl) ?_
      refine mm_E.za rfl rfl hH (mm_bd (by omega) (by decide)) (v := has (t + 1)) (by rw [mm_cl (by omega)]) ?_
      refine mm_E.s rfl rfl rfl (fun _ => if_neg h0) ?_
      refine mm_E.s rfl rfl rfl (fun _ => rfl) ?_
      refine mm_E.gf rfl rfl rfl hO rfl ?_
      refine mm_E.s rfl rfl rfl (fun _ => rfl) ?_
      refine mm_E.s rfl rfl rfl (fun _ => rfl) ?_
      refine mm_E.s rfl rfl rfl (fun _ => rfl) ?_
      refine mm_E.iv rfl rfl rfl rfl hO rfl (g_io hO h28 _) ?_
      refine mm_E.ti (nI m) em ?_
      refine mm_E.s rfl rfl rfl (fun _ => rfl) ?_
      refine mm_E.ti _ (x_256p m) ?_
      refine mm_E.za rfl rfl hH (mm_bd (by omega) (by decide)) (v := has (256 + m)) (by rw [mm_cl (by omega)]) ?_
      refine mm_E.s rfl rfl rfl (fun _ => if_neg h1) ?_
      refine mm_E.s rfl rfl rfl (fun _ => rfl) ?_
      refine mm_E.s rfl rfl rfl (fun _ => rfl) ?_
      exact ih
theorem g_si0 {h : mm_H} {ro co di tr : Int32} {has : Nat → Int32} (hO : mm_nth h 25 = some (x_mo ro co di tr)) (hH : mm_nth h 26 = some (x_ha has)) {f : Nat → Int32} (h28 : mm_nth h 28 = some (x_it 8 f)) (hf : x_fo f) (hs : ¬ x_si has f) : mm_EC kM 104 [.ref 25] h (some (.int 0), h) := by
  refine ⟨kq_104, rfl, rfl, ?_⟩
  refine mm_E.s rfl rfl rfl (fun _ => rfl) ?_
  refine mm_E.s rfl rfl rfl (fun _ => rfl) ?_
  have key : ∀ (d q : Nat), q + d = 256 → 1 ≤ q → (∀ q', q' < q → 1 ≤ q' → ¬ has q' = 0 → ¬ has (256 + (x_io f (nI q') 8).toNatClampNeg) = 0) → mm_E kM none 104 2 [some (.ref 25), some (.int (nI q))] [] h (some (.int 0), h) := by
    intro d
    induction d with
    | zero =>
      intro q hq hq1 hall
      exact absurd (fun q' hq' => hall q' (by omega)) hs
    | succ d ih =>
      intro q hq hq1 hall
      by_cases h0 : has q = 0
      · have z := ih (q + 1) (by omega) (by omega) (fun q' hq' h1 h2 => by
          rcases Nat.lt_or_ge q' q with z | z
          · exact hall q' z h1 h2
          · have : q' = q := by omega
            subst this
            exact absurd h0 h2)
        rw [← nI_1] at z
        refine mm_E.s rfl rfl rfl (fun _ => rfl) ?_
        refine mm_E.s rfl rfl rfl (fun _ => rfl) ?_
        refine mm_E.s rfl rfl rfl (fun _ => if_neg (nI_ge (a := q) (b := 256) (by omega) (by decide))) ?_
        refine mm_E.s rfl rfl rfl (fun _ => rfl) ?_
        refine mm_E.gf rfl rfl rfl hO rfl ?_
        refine mm_E.s rfl rfl rfl (fun _ => rfl) ?_
        refine mm_E.za rfl rfl hH (mm_bd (by omega) (by decide)) (v := has (q)) (by rw [mm_cl (by omega)]) ?_
        refine mm_E.s rfl rfl rfl (fun _ => if_pos h0) ?_
        refine mm_E.s rfl rfl rfl (fun _ => rfl) ?_
        refine mm_E.s rfl rfl rfl (fun _ => rfl) ?_
        exact z
      · obtain ⟨m, hm, em⟩ := x_io_lt hf (nI q) 8 (by decide)
        by_cases h1 : has (256 + m) = 0
        · skip
          refine mm_E.s rfl rfl rfl (fun _ => rfl) ?_
          refine mm_E.s rfl rfl rfl (fun _ => rfl) ?_
          refine mm_E.s rfl rfl rfl (fun _ => if_neg (nI_ge (a := q) (b := 256) (by omega) (by decide))) ?_
          refine mm_E.s rfl rfl rfl (fun _ => rfl) ?_
          refine mm_E.gf rfl rfl rfl hO rfl ?_
          refine mm_E.s rfl rfl rfl (fun _ => rfl) ?_
          refine mm_E.za rfl rfl hH (mm_bd (by omega) (by decide)) (v := has (q)) (by rw [mm_cl (by omega)]) ?_
          refine mm_E.s rfl rfl rfl (fun _ => if_neg h0) ?_
          refine mm_E.s rfl rfl rfl (fun _ => rfl) ?_
          refine mm_E.gf rfl rfl rfl hO rfl ?_
          refine mm_E.s rfl rfl rfl (fun _ => rfl) ?_
          refine mm_E.s rfl rfl rfl (fun _ => rfl) ?_
          refine mm_E.s rfl rfl rfl (fun _ => rfl) ?_
          refine mm_E.iv rfl rfl rfl rfl hO rfl (g_io hO h28 _) ?_
          refine mm_E.ti (nI m) em ?_
          refine mm_E.s rfl rfl rfl (fun _ => rfl) ?_
          refine mm_E.ti _ (x_256p m) ?_
          refine mm_E.za rfl rfl hH (mm_bd (by omega) (by decide)) (v := has (256 + m)) (by rw [mm_cl (by omega)]) ?_
          refine mm_E.s rfl rfl rfl (fun _ => if_pos h1) ?_
          refine mm_E.s rfl rfl rfl (fun _ => rfl) ?_
          exact mm_E.ret rfl rfl rfl
        · have z := ih (q + 1) (by omega) (by omega) (fun q' hq' h1' h2 => by
            rcases Nat.lt_or_ge q' q with z | z
            · exact hall q' z h1' h2
            · have : q' = q := by omega
              subst this
              rw [em, mm_cl (by omega)]
              exact h1)
          rw [← nI_1] at z
          refine mm_E.s rfl rfl rfl (fun _ => rfl) ?_
          refine mm_E.s rfl rfl rfl (fun _ => rfl) ?_
          refine mm_E.s rfl rfl rfl (fun _ => if_neg (nI_ge (a := q) (b := 256) (by omega) (by decide))) ?_
          refine mm_E.s rfl rfl rfl (fun _ => rfl) ?_
          refine mm_E.gf rfl rfl rfl hO rfl ?_
          refine mm_E.s rfl rfl rfl (fun _ => rfl) ?_
          refine mm_E.za rfl rfl hH (mm_bd (by omega) (by decide)) (v := has (q)) (by rw [mm_cl (by omega)]) ?_
          refine mm_E.s rfl rfl rfl (fun _ => if_neg h0) ?_
          refine mm_E.s rfl rfl rfl (fun _ => rfl) ?_
          refine mm_E.gf rfl rfl rfl hO rfl ?_
          refine mm_E.s rfl rfl rfl (fun _ => rfl) ?_
          refine mm_E.s rfl rfl rfl (fun _ => rfl) ?_
          refine mm_E.s rfl rfl rfl (fun _ => rfl) ?_
          refine mm_E.iv rfl rfl rfl rfl hO rfl (g_io hO h28 _) ?_
          refine mm_E.ti (nI m) em ?_
          refine mm_E.s rfl rfl rfl (fun _ => rfl) ?_
          refine mm_E.ti _ (x_256p m) ?_
          refine mm_E.za rfl rfl hH (mm_bd (by omega) (by decide)) (v := has (256 + m)) (by rw [mm_cl (by omega)]) ?_
          refine mm_E.s rfl rfl rfl (fun _ => if_neg h1) ?_
          refine mm_E.s rfl rfl rfl (fun _ => rfl) ?_
          refine mm_E.s rfl rfl rfl (fun _ => rfl) ?_
          exact z
  exact key 255 1 rfl (by decide) (fun q' h1 h2 => absurd h1 (by omega))

