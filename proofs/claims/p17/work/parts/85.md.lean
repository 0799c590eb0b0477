/-! THE REFERENCE'S DIAGONAL: all of it -/
/-- the product of the divisors is not 0 modulo 2 ^ 64 -/
def x_NZ (dv : Nat → Int64) (r : Nat) : Prop := ¬ (2 : Int) ^ 64 ∣ dt_P (fun a => (dv a).toInt) r
theorem x_NZ.ne {dv : Nat → Int64} {r i : Nat} (h : x_NZ dv r) (hi : i < r) : ¬ dv i = 0 := fun q => h (by
  rw [dt_P_zero (s := fun a => (dv a).toInt) r i hi (by show (dv i).toInt = 0; rw [q]; rfl)]
  exact Int.dvd_zero _)
theorem x_P2 (n : Nat) {i j : Nat} (hij : i ≠ j) (hi : i < n + 2) (hj : j < n + 2) (s : Nat → Int) : ∃ c : Int, ∀ s' : Nat → Int, (∀ a, a ≠ i → a ≠ j → s' a = s a) → dt_P s' (n + 2) = c * s' j * s' i := by
  refine ⟨dt_P (fun a => s (dt_k i (dt_k (dt_u i j) a))) n, fun s' h => ?_⟩
  rw [← dt_P_skip s' (n + 1) i (by omega), ← dt_P_skip (fun a => s' (dt_k i a)) n (dt_u i j) (by unfold dt_u; split <;> omega)]
  have e1 : dt_k i (dt_u i j) = j := (dt_k_iff hij).mpr rfl
  show dt_P (fun a => s' (dt_k i (dt_k (dt_u i j) a))) n * s' (dt_k i (dt_u i j)) * s' i = _
  rw [e1, dt_P_congr n (u := fun a => s (dt_k i (dt_k (dt_u i j) a))) (fun a _ => h _ (dt_k_ne i _) (fun q => ?_))]
  have := (dt_k_iff hij).mp q
  exact dt_k_ne (dt_u i j) a this
theorem x_ML (x y : Int64) : (2 : Int) ^ 64 ∣ (x * y).toInt - x.toInt * y.toInt := by
  rw [Int64.toInt_mul]
  have h1 : ((2 ^ 64 : Nat) : Int) ∣ Int.bmod (x.toInt * y.toInt) (2 ^ 64) - x.toInt * y.toInt := Int.dvd_bmod_sub_self
  exact h1
theorem x_DG {x g : Int64} (h : g.toInt ∣ x.toInt) : (2 : Int) ^ 64 ∣ (x / g).toInt * g.toInt - x.toInt := by
  rw [Int64.toInt_div]
  have h1 : ((2 ^ 64 : Nat) : Int) ∣ Int.bmod (x.toInt.tdiv g.toInt) (2 ^ 64) - x.toInt.tdiv g.toInt := Int.dvd_bmod_sub_self
  have h2 : ((2 ^ 64 : Nat) : Int) ∣ (Int.bmod (x.toInt.tdiv g.toInt) (2 ^ 64) - x.toInt.tdiv g.toInt) * g.toInt := Int.dvd_mul_of_dvd_left h1
  rw [Int.sub_mul, Int.tdiv_mul_cancel h] at h2
  exact h2
theorem x_nz_s {dv : Nat → Int64} {r i j : Nat} {g : Int64} (hij : i < j) (hj : j < r) (hd : g.toInt ∣ (dv i).toInt) (h : x_NZ dv r) : x_NZ (vp_updL (vp_updL dv j (dv i / g * dv j)) i g) r := by
  obtain ⟨n, rfl⟩ : ∃ n, r = n + 2 := ⟨r - 2, by omega⟩
  obtain ⟨c, hc⟩ := x_P2 n (show i ≠ j by omega) (by omega) hj (fun a => (dv a).toInt)
  intro q
  refine h ?_
  rw [hc _ (fun a _ _ => rfl)]
  rw [hc _ (fun a h1 h2 => by
    show (vp_updL (vp_updL dv j (dv i / g * dv j)) i g a).toInt = (dv a).toInt
    rw [x_ul, if_neg h1, x_ul, if_neg h2])] at q
  have e1 : vp_updL (vp_updL dv j (dv i / g * dv j)) i g j = dv i / g * dv j := by rw [x_ul, if_neg (by omega), x_ul, if_pos rfl]
  have e2 : vp_updL (vp_updL dv j (dv i / g * dv j)) i g i = g := by rw [x_ul, if_pos rfl]
  rw [e1, e2] at q
  have h1 : (2 : Int) ^ 64 ∣ c * ((dv i / g * dv j).toInt - (dv i / g).toInt * (dv j).toInt) * g.toInt := Int.dvd_mul_of_dvd_left (Int.dvd_mul_of_dvd_right (x_ML _ _))
  have h2 : (2 : Int) ^ 64 ∣ c * (dv j).toInt * ((dv i / g).toInt * g.toInt - (dv i).toInt) := Int.dvd_mul_of_dvd_right (x_DG hd)
  have h3 := Int.dvd_sub (Int.dvd_sub q h1) h2
  have e3 : c * (dv i / g * dv j).toInt * g.toInt - c * ((dv i / g * dv j).toInt - (dv i / g).toInt * (dv j).toInt) * g.toInt - c * (dv j).toInt * ((dv i / g).toInt * g.toInt - (dv i).toInt) = c * (dv j).toInt * (dv i).toInt := by
    generalize (dv i / g * dv j).toInt = X
    generalize (dv i / g).toInt = Y
    generalize (dv j).toInt = Z
    generalize (dv i).toInt = W
    generalize g.toInt = G
    have q1 : c * (X - Y * Z) * G = c * X * G - c * (Y * Z) * G := by rw [Int.mul_sub, Int.sub_mul]
    have q2 : c * Z * (Y * G - W) = c * Z * (Y * G) - c * Z * W := by rw [Int.mul_sub]
    have q3 : c * (Y * Z) * G = c * Z * (Y * G) := by rw [Int.mul_comm Y Z, Int.mul_assoc, Int.mul_assoc, Int.mul_assoc]
    rw [q1, q2, q3]
    omega
  rw [e3] at h3
  exact h3
theorem x_vol {dv : Nat → Int64} {r : Nat} {z : Int64} (hz : (2 : Int) ^ 64 ∣ z.toInt - dt_P (fun a => (dv a).toInt) r) : (2 : Int) ^ 64 ∣ (z * dv r).toInt - dt_P (fun a => (dv a).toInt) (r + 1) := by
  have h1 := x_ML z (dv r)
  have h2 : (2 : Int) ^ 64 ∣ (z.toInt - dt_P (fun a => (dv a).toInt) r) * (dv r).toInt := Int.dvd_mul_of_dvd_left hz
  have h3 := Int.dvd_add h1 h2
  have e : (z * dv r).toInt - z.toInt * (dv r).toInt + (z.toInt - dt_P (fun a => (dv a).toInt) r) * (dv r).toInt = (z * dv r).toInt - dt_P (fun a => (dv a).toInt) (r + 1) := by
    show _ = (z * dv r).toInt - dt_P (fun a => (dv a).toInt) r * (dv r).toInt
    rw [Int.sub_mul]
    omega
  rw [e] at h3
  exact h3
/-- bounds for the columns of a matrix, good for all minors -/
def x_KP (Rn Cn : Nat) (ma : Nat → Int64) : Prop := ∃ K : Nat → Int, (∀ j, dt_S (fun i => ((ma (48 * i + j)).toInt.natAbs : Int)) Rn ≤ K j) ∧ (∀ j, 0 ≤ K j) ∧ ∀ r f, r ≤ Rn → (∀ b, b < r → f b < Cn) → dt_inj r f → dt_P (fun b => K (f b)) r < 2 ^ 64
theorem x_fin {Rn Cn t : Nat} {ma wo dv : Nat → Int64} (hK : x_KP Rn Cn ma) (h1 : t ≤ Rn) (h2 : t ≤ Cn) (hRl : x_Rl Rn Cn (fun a b => (ma (48 * a + b)).toInt) wo) (hZr : x_Zr Rn Cn t wo) (hz : ∀ a b, t ≤ a → a < Rn → t ≤ b → b < Cn → wo (48 * a + b) = 0) (hd : ∀ a, a < t → ¬ wo (48 * a + a) = 0 ∧ (dv a = wo (48 * a + a) ∨ dv a = - wo (48 * a + a))) : x_NZ dv t := by
  obtain ⟨K, k1, k2, k3⟩ := hK
  obtain ⟨B, b1, b2⟩ := hRl
  have hP : ¬ (2 : Int) ^ 64 ∣ dt_P (fun a => (wo (48 * a + a)).toInt) t := by
    refine dt_prod2 (m := Rn) (c := Cn) (r := t) (k := 64) (A := fun a b => (ma (48 * a + b)).toInt) (B := B) (d := fun a => (wo (48 * a + a)).toInt) (K := K) h1 h2 (fun N => (b1 N t).mp) (fun N => (b1 N t).mpr) (fun a ha => ⟨x_t0 (hd a ha).1, ?_⟩) (fun a b ha hb => ?_) k1 k2 (fun f hf hj => k3 t f h1 hf hj)
    · have l1 := (wo (48 * a + a)).toInt_lt
      have l2 := (wo (48 * a + a)).le_toInt
      show (wo (48 * a + a)).toInt.natAbs < 2 ^ 64
      omega
    · have z := b2 a b ha hb
      by_cases e : a = b ∧ a < t
      · rw [if_pos e]
        rw [← e.1] at z ⊢
        exact z
      · rw [if_neg e]
        have z0 : wo (48 * a + b) = 0 := by
          by_cases c : a < t ∨ b < t
          · exact hZr a b ha hb c (by omega)
          · exact hz a b (by omega) ha (by omega) hb
        rw [z0] at z
        exact z
  have key : ∀ n, n ≤ t → ∃ u : Int, (u = 1 ∨ u = -1) ∧ (2 : Int) ^ 64 ∣ dt_P (fun a => (dv a).toInt) n - u * dt_P (fun a => (wo (48 * a + a)).toInt) n := by
    intro n
    induction n with
    | zero => exact fun _ => ⟨1, Or.inl rfl, by simp [dt_P]⟩
    | succ n ih =>
      intro hn
      obtain ⟨u, hu, hv⟩ := ih (by omega)
      have hs : ∃ s : Int, (s = 1 ∨ s = -1) ∧ (2 : Int) ^ 64 ∣ (dv n).toInt - s * (wo (48 * n + n)).toInt := by
        rcases (hd n (by omega)).2 with e | e
        · exact ⟨1, Or.inl rfl, by rw [e, Int.one_mul, Int.sub_self]; exact Int.dvd_zero _⟩
        · refine ⟨-1, Or.inr rfl, ?_⟩
          rw [e, Int64.toInt_neg]
          have h1 : ((2 ^ 64 : Nat) : Int) ∣ Int.bmod (-(wo (48 * n + n)).toInt) (2 ^ 64) - -(wo (48 * n + n)).toInt := Int.dvd_bmod_sub_self
          rw [Int.neg_mul, Int.one_mul]
          exact h1
      obtain ⟨s, hs1, hs2⟩ := hs
      refine ⟨u * s, by rcases hu with rfl | rfl <;> rcases hs1 with rfl | rfl <;> decide, ?_⟩
      show (2 : Int) ^ 64 ∣ dt_P (fun a => (dv a).toInt) n * (dv n).toInt - u * s * (dt_P (fun a => (wo (48 * a + a)).toInt) n * (wo (48 * n + n)).toInt)
      generalize dt_P (fun a => (dv a).toInt) n = X at *
      generalize dt_P (fun a => (wo (48 * a + a)).toInt) n = Y at *
      generalize (dv n).toInt = x at *
      generalize (wo (48 * n + n)).toInt = y at *
      have q1 : (2 : Int) ^ 64 ∣ (X - u * Y) * x := Int.dvd_mul_of_dvd_left hv
      have q2 : (2 : Int) ^ 64 ∣ u * Y * (x - s * y) := Int.dvd_mul_of_dvd_right hs2
      have q3 := Int.dvd_add q1 q2
      have e : (X - u * Y) * x + u * Y * (x - s * y) = X * x - u * s * (Y * y) := by
        have q5 : u * Y * (s * y) = u * s * (Y * y) := by rw [Int.mul_assoc, Int.mul_assoc, Int.mul_left_comm Y s y]
        rw [Int.sub_mul, Int.mul_sub, q5]
        omega
      rw [e] at q3
      exact q3
  obtain ⟨u, hu, hv⟩ := key t (Nat.le_refl _)
  intro q
  refine hP ?_
  have h5 := Int.dvd_sub q hv
  have e : dt_P (fun a => (dv a).toInt) t - (dt_P (fun a => (dv a).toInt) t - u * dt_P (fun a => (wo (48 * a + a)).toInt) t) = u * dt_P (fun a => (wo (48 * a + a)).toInt) t := by omega
  rw [e] at h5
  rcases hu with rfl | rfl
  · rw [Int.one_mul] at h5
    exact h5
  · rw [Int.neg_mul, Int.one_mul] at h5
    exact Int.dvd_neg.mp h5
theorem x_DS.self {R C t : Nat} {A : Nat → Nat → Int} {wo0 wo : Nat → Int64} (h : x_DS R C t A wo0 wo) : x_DS R C t A wo wo := ⟨h.1, h.2.1, h.2.2.1, Nat.le_refl _, fun _ _ => rfl⟩
theorem x_zr_s {R C t : Nat} {wo : Nat → Int64} (h : x_Zr R C t wo) (hc : ∀ a, t < a → a < R → wo (48 * a + t) = 0) (hr : ∀ b, t < b → b < C → wo (48 * t + b) = 0) : x_Zr R C (t + 1) wo := fun a b ha hb hab hne => by
  by_cases c : a < t ∨ b < t
  · exact h a b ha hb c hne
  · by_cases e : a = t
    · rw [e]
      exact hr b (by omega) hb
    · have : b = t := by omega
      rw [this]
      exact hc a (by omega) ha
theorem m_diag2 {c : Nat → mm_C} {has ke f cy sp e1 e2 e3 : Nat → Int32} {ma wo dv : Nat → Int64} {ro co tr : Int32} {r : Nat} (hr : r ≤ 48) (hnz : x_NZ dv r) {y1 y2 y3 y4 : Option Value} : mm_T kM none 94 131 [some (.ref 25), y1, y2, y3, y4] [] (kD c has ke f ma wo dv cy sp e1 e2 e3 ro co (nI r) tr) (fun v h => v = none ∧ ∃ dv1, x_NZ dv1 r ∧ h = (kD c has ke f ma wo dv1 cy sp e1 e2 e3 ro co (nI r) tr)) := by
  refine mm_T.s rfl rfl rfl (fun _ => rfl) ?_
  refine mm_T.s rfl rfl rfl (fun _ => rfl) ?_
  refine mm_T.up (n := r) (P := fun i L h => ∃ x1 y2 y3 y4 dv2, x1 = nI i ∧ x_NZ dv2 r ∧ L = [some (.ref 25), some (.int x1), y2, y3, y4] ∧ h = (kD c has ke f ma wo dv2 cy sp e1 e2 e3 ro co (nI r) tr)) ?_ ?_ 0 (Nat.zero_le _) _ _ ⟨_, _, _, _, _, rfl, hnz, rfl, rfl⟩
  · skip
    rintro i _ _ hi ⟨x1, y2, y3, y4, dv2, rfl, hnz2, rfl, rfl⟩ K
    refine mm_T.s rfl rfl rfl (fun _ => rfl) ?_
    refine mm_T.s rfl rfl rfl (fun _ => rfl) ?_
    refine mm_T.gf rfl rfl rfl rfl rfl ?_
    refine mm_T.s rfl rfl rfl (fun _ => if_neg (nI_ge hi (by omega))) ?_
    refine mm_T.s rfl rfl rfl (fun _ => rfl) ?_
    refine mm_T.s rfl rfl rfl (fun _ => rfl) ?_
    refine mm_T.s rfl rfl rfl (fun _ => rfl) ?_
    refine mm_T.ti _ (nI_1 i) ?_
    refine mm_T.s rfl rfl rfl (fun _ => rfl) ?_
    refine mm_T.up (n := r) (P := fun i1 L h => ∃ x2 y3 y4 dv3, i < i1 ∧ x2 = nI i1 ∧ x_NZ dv3 r ∧ L = [some (.ref 25), some (.int (nI i)), some (.int x2), y3, y4] ∧ h = (kD c has ke f ma wo dv3 cy sp e1 e2 e3 ro co (nI r) tr)) ?_ ?_ (i + 1) hi _ _ ⟨_, _, _, _, by omega, rfl, hnz2, rfl, rfl⟩
    · skip
      rintro j _ _ hj ⟨x2, y3, y4, dv3, hij, rfl, hnz3, rfl, rfl⟩ K2
      refine mm_T.s rfl rfl rfl (fun _ => rfl) ?_
      refine mm_T.s rfl rfl rfl (fun _ => rfl) ?_
      refine mm_T.gf rfl rfl rfl rfl rfl ?_
      refine mm_T.s rfl rfl rfl (fun _ => if_neg (nI_ge hj (by omega))) ?_
      refine mm_T.s rfl rfl rfl (fun _ => rfl) ?_
      refine mm_T.gf rfl rfl rfl rfl rfl ?_
      refine mm_T.s rfl rfl rfl (fun _ => rfl) ?_
      refine mm_T.laN rfl rfl rfl (by omega) (by decide) rfl ?_
      refine mm_T.s rfl rfl rfl (fun _ => rfl) ?_
      refine mm_T.gf rfl rfl rfl rfl rfl ?_
      refine mm_T.s rfl rfl rfl (fun _ => rfl) ?_
      refine mm_T.laN rfl rfl rfl (by omega) (by decide) rfl ?_
      refine mm_T.icw rfl rfl rfl rfl rfl (m_common (hnz3.ne hi) _) ?_
      rintro _ _ ⟨⟨g, rfl, hg0, hg1, hg2⟩, rfl⟩
      refine mm_T.s rfl rfl rfl (fun _ => rfl) ?_
      refine mm_T.s rfl rfl rfl (fun _ => rfl) ?_
      refine mm_T.gf rfl rfl rfl rfl rfl ?_
      refine mm_T.s rfl rfl rfl (fun _ => rfl) ?_
      refine mm_T.s rfl rfl rfl (fun _ => rfl) ?_
      refine mm_T.gf rfl rfl rfl rfl rfl ?_
      refine mm_T.s rfl rfl rfl (fun _ => rfl) ?_
      refine mm_T.laN rfl rfl rfl (by omega) (by decide) rfl ?_
      refine mm_T.s rfl rfl rfl (fun _ => rfl) ?_
      refine mm_T.s rfl rfl rfl (fun _ => if_neg hg0) ?_
      refine mm_T.s rfl rfl rfl (fun _ => rfl) ?_
      refine mm_T.gf rfl rfl rfl rfl rfl ?_
      refine mm_T.s rfl rfl rfl (fun _ => rfl) ?_
      refine mm_T.laN rfl rfl rfl (by omega) (by decide) rfl ?_
      refine mm_T.s rfl rfl rfl (fun _ => rfl) ?_
      refine mm_T.lsN rfl rfl rfl (by omega) (by decide) rfl ?_
      refine mm_T.s rfl rfl rfl (fun _ => rfl) ?_
      refine mm_T.gf rfl rfl rfl rfl rfl ?_
      refine mm_T.s rfl rfl rfl (fun _ => rfl) ?_
      refine mm_T.s rfl rfl rfl (fun _ => rfl) ?_
      refine mm_T.lsN rfl rfl rfl (by omega) (by decide) rfl ?_
      refine mm_T.s rfl rfl rfl (fun _ => rfl) ?_
      refine mm_T.s rfl rfl rfl (fun _ => rfl) ?_
      exact K2 _ _ ⟨_, _, _, _, by omega, nI_1 j, x_nz_s hij hj hg1 hnz3, rfl, rfl⟩
    · skip
      rintro _ _ ⟨x2, y3, y4, dv3, hij, rfl, hnz3, rfl, rfl⟩
      refine mm_T.s rfl rfl rfl (fun _ => rfl) ?_
      refine mm_T.s rfl rfl rfl (fun _ => rfl) ?_
      refine mm_T.gf rfl rfl rfl rfl rfl ?_
      refine mm_T.s rfl rfl rfl (fun _ => if_pos (nI_le (Nat.le_refl _) (by omega))) ?_
      refine mm_T.s rfl rfl rfl (fun _ => rfl) ?_
      refine mm_T.s rfl rfl rfl (fun _ => rfl) ?_
      exact K _ _ ⟨_, _, _, _, _, nI_1 i, hnz3, rfl, rfl⟩
  · skip
    rintro _ _ ⟨x1, y2, y3, y4, dv2, rfl, hnz2, rfl, rfl⟩
    refine mm_T.s rfl rfl rfl (fun _ => rfl) ?_
    refine mm_T.s rfl rfl rfl (fun _ => rfl) ?_
    refine mm_T.gf rfl rfl rfl rfl rfl ?_
    refine mm_T.s rfl rfl rfl (fun _ => if_pos (nI_le (Nat.le_refl _) (by omega))) ?_
    exact mm_T.ret rfl rfl rfl (⟨rfl, _, hnz2, rfl⟩)
theorem m_diag {c : Nat → mm_C} {has ke f cy sp e1 e2 e3 : Nat → Int32} {ma wo dv : Nat → Int64} {di tr : Int32} {Rn Cn : Nat} (hR : Rn ≤ 48) (hC : Cn ≤ 48) (hK : x_KP Rn Cn ma) : mm_TC kM 94 [.ref 25] (kD c has ke f ma wo dv cy sp e1 e2 e3 (nI Rn) (nI Cn) di tr) (fun v h => v = none ∧ ∃ wo1 dv1 r, r ≤ Rn ∧ r ≤ Cn ∧ x_NZ dv1 r ∧ h = (kD c has ke f ma wo1 dv1 cy sp e1 e2 e3 (nI Rn) (nI Cn) (nI r) tr)) := by
  refine mm_TC.of (M := kq_94) rfl rfl ?_
  refine mm_T.s rfl rfl rfl (fun _ => rfl) ?_
  refine mm_T.s rfl rfl rfl (fun _ => rfl) ?_
  refine mm_T.up (n := 2304) (P := fun i L h => ∃ x1 wo1, x1 = nI i ∧ (∀ q, q < i → wo1 q = ma q) ∧ L = [some (.ref 25), some (.int x1), none, none, none] ∧ h = (kD c has ke f ma wo1 dv cy sp e1 e2 e3 (nI Rn) (nI Cn) di tr)) ?_ ?_ 0 (Nat.zero_le _) _ _ ⟨_, _, rfl, fun q hq => absurd hq (Nat.not_lt_zero _), rfl, rfl⟩
  · skip
    rintro i _ _ hi ⟨x1, wo1, rfl, hz, rfl, rfl⟩ K
    refine mm_T.s rfl rfl rfl (fun _ => rfl) ?_
    refine mm_T.s rfl rfl rfl (fun _ => rfl) ?_
    refine mm_T.s rfl rfl rfl (fun _ => if_neg (nI_ge (b := 2304) hi (by decide))) ?_
    refine mm_T.s rfl rfl rfl (fun _ => rfl) ?_
    refine mm_T.gf rfl rfl rfl rfl rfl ?_
    refine mm_T.s rfl rfl rfl (fun _ => rfl) ?_
    refine mm_T.s rfl rfl rfl (fun _ => rfl) ?_
    refine mm_T.gf rfl rfl rfl rfl rfl ?_
    refine mm_T.s rfl rfl rfl (fun _ => rfl) ?_
    refine mm_T.laN rfl rfl rfl (by omega) (by decide) rfl ?_
    refine mm_T.lsN rfl rfl rfl (by omega) (by decide) rfl ?_
    refine mm_T.s rfl rfl rfl (fun _ => rfl) ?_
    refine mm_T.s rfl rfl rfl (fun _ => rfl) ?_
    refine K _ _ ⟨_, _, nI_1 i, fun q hq => ?_, rfl, rfl⟩
    rw [x_ul]
    by_cases e : q = i
    · rw [if_pos e, e]
    · rw [if_neg e]
      exact hz q (by omega)
  · skip
    rintro _ _ ⟨x1, wo0, rfl, hz, rfl, rfl⟩
    have hRl0 : x_Rl Rn Cn (fun a b => (ma (48 * a + b)).toInt) wo0 := ⟨_, fun N r => Iff.rfl, fun a b ha hb => by rw [hz _ (by omega), Int.sub_self]; exact Int.dvd_zero _⟩
    refine mm_T.s rfl rfl rfl (fun _ => rfl) ?_
    refine mm_T.s rfl rfl rfl (fun _ => rfl) ?_
    refine mm_T.s rfl rfl rfl (fun _ => rfl) ?_
    refine mm_T.s rfl rfl rfl (fun _ => rfl) ?_
    refine mm_T.s rfl rfl rfl (fun _ => rfl) ?_
    refine mm_T.pfi rfl rfl rfl rfl rfl rfl ?_
    refine mm_T.wf (P := fun m L h => ∃ y1 y2 y3 y4 wo1 dv1 di1 t, di1 = nI t ∧ m = Rn - t ∧ t ≤ Rn ∧ t ≤ Cn ∧ x_Rl Rn Cn (fun a b => (ma (48 * a + b)).toInt) wo1 ∧ x_Zr Rn Cn t wo1 ∧ (∀ a, a < t → ¬ wo1 (48 * a + a) = 0 ∧ (dv1 a = wo1 (48 * a + a) ∨ dv1 a = - wo1 (48 * a + a))) ∧ L = [some (.ref 25), y1, y2, y3, y4] ∧ h = (kD c has ke f ma wo1 dv1 cy sp e1 e2 e3 (nI Rn) (nI Cn) di1 tr)) ?_ _ _ _ ⟨_, _, _, _, _, _, _, 0, rfl, rfl, Nat.zero_le _, Nat.zero_le _, hRl0, fun a b _ _ h3 => by omega, fun a ha => absurd ha (Nat.not_lt_zero _), rfl, rfl⟩
    rintro m _ _ ⟨y1, y2, y3, y4, wo1, dv1, di1, t, rfl, rfl, ht1, ht2, hRl, hZr, hdd, rfl, rfl⟩ K
    refine mm_T.s rfl rfl rfl (fun _ => rfl) ?_
    refine mm_T.gf rfl rfl rfl rfl rfl ?_
    refine mm_T.s rfl rfl rfl (fun _ => rfl) ?_
    refine mm_T.gf rfl rfl rfl rfl rfl ?_
    refine mm_T.ci rfl rfl (fun hb40 => ?_) (fun hb40 => ?_)
    · skip
      have hz0 : ∀ a b, t ≤ a → a < Rn → t ≤ b → b < Cn → wo1 (48 * a + b) = 0 := fun a b h1 h2 => absurd ((nI_leI (by omega) (by omega)).mp hb40) (by omega)
      exact mm_T.mono (m_diag2 (r := t) (by omega) (x_fin hK ht1 ht2 hRl hZr hz0 hdd)) (fun v h q => ⟨q.1, _, _, t, ht1, ht2, q.2.choose_spec.1, q.2.choose_spec.2⟩)
    · skip
      replace hb40 : t < Rn := Nat.lt_of_not_le (fun q => hb40 (nI_le q (by omega)))
      refine mm_T.s rfl rfl rfl (fun _ => rfl) ?_
      refine mm_T.gf rfl rfl rfl rfl rfl ?_
      refine mm_T.s rfl rfl rfl (fun _ => rfl) ?_
      refine mm_T.gf rfl rfl rfl rfl rfl ?_
      refine mm_T.ci rfl rfl (fun hb51 => ?_) (fun hb51 => ?_)
      · skip
        have hz0 : ∀ a b, t ≤ a → a < Rn → t ≤ b → b < Cn → wo1 (48 * a + b) = 0 := fun a b h1 h2 h3 h4 => absurd ((nI_leI (by omega) (by omega)).mp hb51) (by omega)
        exact mm_T.mono (m_diag2 (r := t) (by omega) (x_fin hK ht1 ht2 hRl hZr hz0 hdd)) (fun v h q => ⟨q.1, _, _, t, ht1, ht2, q.2.choose_spec.1, q.2.choose_spec.2⟩)
      · skip
        replace hb51 : t < Cn := Nat.lt_of_not_le (fun q => hb51 (nI_le q (by omega)))
        refine mm_T.s rfl rfl rfl (fun _ => rfl) ?_
        refine mm_T.s rfl rfl rfl (fun _ => rfl) ?_
        refine mm_T.gf rfl rfl rfl rfl rfl ?_
        refine mm_T.ivw rfl rfl rfl rfl rfl rfl (m_start hR hC hb40 hb51 hRl hZr) ?_
        rintro _ _ hst
        rcases hst with ⟨rfl, wo5, ⟨hDs, hds⟩, rfl⟩ | ⟨rfl, hz0, rfl⟩
        · skip
          refine mm_T.s rfl rfl rfl (fun _ => rfl) ?_
          refine mm_T.s rfl rfl rfl (fun _ => rfl) ?_
          refine mm_T.gf rfl rfl rfl rfl rfl ?_
          refine mm_T.s rfl rfl rfl (fun _ => rfl) ?_
          refine mm_T.wf (P := fun m L h => ∃ y2 y3 y4 wo2, x_DS Rn Cn t (fun a b => (ma (48 * a + b)).toInt) wo2 wo2 ∧ (∀ a, a < t → wo2 (48 * a + a) = wo1 (48 * a + a)) ∧ m = (wo2 (48 * t + t)).toInt.natAbs ∧ L = [some (.ref 25), some (.int (nI t)), y2, y3, y4] ∧ h = (kD c has ke f ma wo2 dv1 cy sp e1 e2 e3 (nI Rn) (nI Cn) (nI t) tr)) ?_ _ _ _ ⟨_, _, _, _, hDs, hds, rfl, rfl, rfl⟩
          rintro m _ _ ⟨y2, y3, y4, wo2, hD2, hs2, rfl, rfl, rfl⟩ K2
          refine mm_T.s rfl rfl rfl (fun _ => rfl) ?_
          refine mm_T.s rfl rfl rfl (fun _ => rfl) ?_
          refine mm_T.ivw rfl rfl rfl rfl rfl rfl (m_dw hR hC hb40 hb51 hD2) ?_
          rintro _ _ ⟨rfl, wo3, hD3, hcz3, rfl⟩
          refine mm_T.s rfl rfl rfl (fun _ => rfl) ?_
          refine mm_T.s rfl rfl rfl (fun _ => rfl) ?_
          refine mm_T.ivw rfl rfl rfl rfl rfl rfl (m_sd hR hC hb40 hb51 hD3.self) ?_
          rintro _ _ ⟨rfl, wo4, hD4, hsd4, hrz4, rfl⟩
          refine mm_T.s rfl rfl rfl (fun _ => rfl) ?_
          refine mm_T.s rfl rfl rfl (fun _ => rfl) ?_
          refine mm_T.ivw rfl rfl rfl rfl rfl rfl (m_clean hR hC hb40 hb51) ?_
          rintro _ _ ⟨hcl, rfl⟩
          have hd4 : ∀ a, a < t → wo4 (48 * a + a) = wo1 (48 * a + a) := fun a ha => by rw [hD4.2.2.2.2 a ha, hD3.2.2.2.2 a ha, hs2 a ha]
          rcases hcl with ⟨rfl, hcz, hrz⟩ | ⟨rfl, hno⟩
          · skip
            refine mm_T.s rfl rfl rfl (fun _ => rfl) ?_
            refine mm_T.s rfl rfl rfl (fun _ => rfl) ?_
            refine mm_T.gf rfl rfl rfl rfl rfl ?_
            refine mm_T.s rfl rfl rfl (fun _ => rfl) ?_
            refine mm_T.s rfl rfl rfl (fun _ => rfl) ?_
            refine mm_T.s rfl rfl rfl (fun _ => rfl) ?_
            refine mm_T.s rfl rfl rfl (fun _ => rfl) ?_
            refine mm_T.s rfl rfl rfl (fun _ => rfl) ?_
            refine mm_T.ti _ (x_84 _ _) ?_
            refine mm_T.laN rfl rfl rfl (by omega) (by decide) rfl ?_
            refine mm_T.s rfl rfl rfl (fun _ => rfl) ?_
            refine mm_T.s rfl rfl rfl (fun _ => rfl) ?_
            refine mm_T.gf rfl rfl rfl rfl rfl ?_
            refine mm_T.s rfl rfl rfl (fun _ => rfl) ?_
            refine mm_T.s rfl rfl rfl (fun _ => rfl) ?_
            refine mm_T.s rfl rfl rfl (fun _ => rfl) ?_
            refine mm_T.s rfl rfl rfl (fun _ => rfl) ?_
            refine mm_T.cz rfl rfl (fun hb108 => ?_) (fun hb108 => ?_)
            · skip
              have hsg : wo4 (48 * t + t) = wo4 (48 * t + t) ∨ wo4 (48 * t + t) = - wo4 (48 * t + t) := Or.inl rfl
              refine mm_T.s rfl rfl rfl (fun _ => rfl) ?_
              refine mm_T.lsN rfl rfl rfl (by omega) (by decide) rfl ?_
              refine mm_T.s rfl rfl rfl (fun _ => rfl) ?_
              refine mm_T.s rfl rfl rfl (fun _ => rfl) ?_
              refine mm_T.gf rfl rfl rfl rfl rfl ?_
              refine mm_T.s rfl rfl rfl (fun _ => rfl) ?_
              refine mm_T.s rfl rfl rfl (fun _ => rfl) ?_
              refine mm_T.pfi rfl rfl rfl rfl rfl rfl ?_
              refine mm_T.s rfl rfl rfl (fun _ => rfl) ?_
              exact K _ _ _ (by omega) ⟨_, _, _, _, _, _, _, t + 1, nI_1 t, rfl, hb40, hb51, hD4.1, x_zr_s hD4.2.1 hcz hrz, fun a ha => (by
                rw [x_ul]
                by_cases e : a = t
                · rw [e, if_pos rfl]
                  exact ⟨hD4.2.2.1, hsg⟩
                · rw [if_neg e, hd4 a (by omega)]
                  exact hdd a (by omega)), rfl, rfl⟩
            · skip
              have hsg : - wo4 (48 * t + t) = wo4 (48 * t + t) ∨ - wo4 (48 * t + t) = - wo4 (48 * t + t) := Or.inr rfl
              refine mm_T.s rfl rfl rfl (fun _ => rfl) ?_
              refine mm_T.s rfl rfl rfl (fun _ => rfl) ?_
              refine mm_T.s rfl rfl rfl (fun _ => rfl) ?_
              refine mm_T.lsN rfl rfl rfl (by omega) (by decide) rfl ?_
              refine mm_T.s rfl rfl rfl (fun _ => rfl) ?_
              refine mm_T.s rfl rfl rfl (fun _ => rfl) ?_
              refine mm_T.gf rfl rfl rfl rfl rfl ?_
              refine mm_T.s rfl rfl rfl (fun _ => rfl) ?_
              refine mm_T.s rfl rfl rfl (fun _ => rfl) ?_
              refine mm_T.pfi rfl rfl rfl rfl rfl rfl ?_
              refine mm_T.s rfl rfl rfl (fun _ => rfl) ?_
              exact K _ _ _ (by omega) ⟨_, _, _, _, _, _, _, t + 1, nI_1 t, rfl, hb40, hb51, hD4.1, x_zr_s hD4.2.1 hcz hrz, fun a ha => (by
                rw [x_ul]
                by_cases e : a = t
                · rw [e, if_pos rfl]
                  exact ⟨hD4.2.2.1, hsg⟩
                · rw [if_neg e, hd4 a (by omega)]
                  exact hdd a (by omega)), rfl, rfl⟩
          · skip
            refine mm_T.s rfl rfl rfl (fun _ => rfl) ?_
            refine K2 _ _ _ ?_ ⟨_, _, _, _, hD4.self, fun a ha => hd4 a ha, rfl, rfl, rfl⟩
            have l1 := hD3.2.2.2.1
            rcases hsd4 with q | q
            · omega
            · exact absurd ⟨fun a h1 h2 => (by rw [q.2 a h1 h2]; exact hcz3 a h1 h2), hrz4⟩ hno
        · skip
          refine mm_T.s rfl rfl rfl (fun _ => rfl) ?_
          exact mm_T.mono (m_diag2 (r := t) (by omega) (x_fin hK ht1 ht2 hRl hZr hz0 hdd)) (fun v h q => ⟨q.1, _, _, t, ht1, ht2, q.2.choose_spec.1, q.2.choose_spec.2⟩)
