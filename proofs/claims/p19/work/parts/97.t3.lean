/-! SPANS: the counter's rows with tags, its cocycles -/
theorem f2_mx (x y : Nat) : (x ^^^ y) % 2 ^ 24 = x % 2 ^ 24 ^^^ y % 2 ^ 24 := Nat.eq_of_testBit_eq (fun i => by
  rw [Nat.testBit_mod_two_pow, Nat.testBit_xor, Nat.testBit_xor, Nat.testBit_mod_two_pow, Nat.testBit_mod_two_pow]
  cases decide (i < 24) <;> cases x.testBit i <;> cases y.testBit i <;> rfl)
theorem f2_dx (x y : Nat) : (x ^^^ y) / 2 ^ 24 = x / 2 ^ 24 ^^^ y / 2 ^ 24 := Nat.eq_of_testBit_eq (fun i => by
  rw [Nat.testBit_div_two_pow, Nat.testBit_xor, Nat.testBit_xor, Nat.testBit_div_two_pow, Nat.testBit_div_two_pow])
/-- a linear map of a span -/
theorem f2_map {φ : Nat → Nat} (h0 : φ 0 = 0) (hx : ∀ x y, φ (x ^^^ y) = φ x ^^^ φ y) : ∀ (l : List Nat) (z : Nat), f2_s l z → f2_s (l.map φ) (φ z)
  | [], z, h => by
    rw [show z = 0 from h, h0]
    exact f2_0 _
  | a :: l, z, h => by
    rcases h with h | h
    · exact Or.inl (f2_map h0 hx l z h)
    · refine Or.inr ?_
      rw [← hx]
      exact f2_map h0 hx l _ h
/-- the lowest bit -/
def f2_lb (y : Nat) : Nat → Nat → Nat
  | 0, b => b
  | d + 1, b => if y.testBit b then b else f2_lb y d (b + 1)
theorem f2_lb_ok (y : Nat) : ∀ d b, b ≤ f2_lb y d b ∧ f2_lb y d b ≤ b + d ∧ (∀ c, b ≤ c → c < f2_lb y d b → y.testBit c = false) ∧ (f2_lb y d b < b + d → y.testBit (f2_lb y d b) = true)
  | 0, b => ⟨Nat.le_refl _, Nat.le_refl _, fun c h1 h2 => absurd (Nat.lt_of_le_of_lt h1 h2) (Nat.lt_irrefl _), fun h => absurd h (Nat.lt_irrefl _)⟩
  | d + 1, b => by
    by_cases c : y.testBit b = true
    · rw [show f2_lb y (d + 1) b = b from if_pos c]
      exact ⟨Nat.le_refl _, by omega, fun e h1 h2 => absurd (Nat.lt_of_le_of_lt h1 h2) (Nat.lt_irrefl _), fun _ => c⟩
    · rw [show f2_lb y (d + 1) b = f2_lb y d (b + 1) from if_neg c]
      obtain ⟨i1, i2, i3, i4⟩ := f2_lb_ok y d (b + 1)
      refine ⟨by omega, by omega, fun e h1 h2 => ?_, fun h => i4 (by omega)⟩
      by_cases q : e = b
      · rw [q]
        exact Bool.eq_false_iff.mpr c
      · exact i3 e (by omega) h2
def f2_t (r : Nat → Nat) (x : Nat) : (Nat → Nat) × Nat := if f2_lb (f2_r r 24 0 x) 24 0 < 24 then (fun c => if c = f2_lb (f2_r r 24 0 x) 24 0 then f2_r r 24 0 x else r c, 1) else (r, 0)
/-- low parts -/
def f2_w (r : Nat → Nat) (b : Nat) : Nat := r b % 2 ^ 24
theorem f2_lo_w {r : Nat → Nat} (h : f2_lo r) : f2_lo (f2_w r) := fun b hb => by
  unfold f2_w
  rcases h b hb with q | q
  · rw [q]
    exact Or.inl rfl
  · refine Or.inr ⟨by rw [Nat.testBit_mod_two_pow, decide_eq_true hb, q.1]; rfl, fun c hc => by rw [Nat.testBit_mod_two_pow, q.2 c hc, Bool.and_false]⟩
theorem f2_w0 {r : Nat → Nat} (h : f2_lo r) {b : Nat} (hb : b < 24) : f2_w r b = 0 ↔ r b = 0 := by
  unfold f2_w
  constructor
  · intro q
    rcases h b hb with z | z
    · exact z
    · have w := congrArg (fun n => n.testBit b) q
      have w : (r b % 2 ^ 24).testBit b = (0 : Nat).testBit b := w
      rw [Nat.testBit_mod_two_pow, decide_eq_true hb, z.1, Nat.zero_testBit] at w
      cases w
  · intro q
    rw [q]
theorem f2_Lw {r : Nat → Nat} (h : f2_lo r) {z : Nat} (hz : f2_s (f2_L r 24 0) z) : f2_s (f2_L (f2_w r) 24 0) (z % 2 ^ 24) := by
  have z1 := f2_map (φ := fun x => x % 2 ^ 24) rfl f2_mx _ _ hz
  refine f2_sub _ _ (fun a ha => f2_mem _ a ?_) _ z1
  obtain ⟨u, hu, eu⟩ := List.mem_map.mp ha
  obtain ⟨c, h1, h2, h3, h4⟩ := (f2_L_m r u 24 0).mp hu
  have e2 : f2_w r c = a := by
    unfold f2_w
    rw [h3]
    exact eu
  refine (f2_L_m _ a 24 0).mpr ⟨c, h1, h2, e2, fun q => ?_⟩
  rw [q] at e2
  exact h4 (h3.symm.trans ((f2_w0 h (by omega)).mp e2))
theorem f2_t_ok {r : Nat → Nat} (h : f2_lo r) (x : Nat) : f2_lo (f2_t r x).1 ∧ (f2_L (f2_w (f2_t r x).1) 24 0).length = (f2_L (f2_w r) 24 0).length + (f2_t r x).2 ∧ (∀ y, f2_s (f2_L (f2_w (f2_t r x).1) 24 0) y ↔ f2_s (x % 2 ^ 24 :: f2_L (f2_w r) 24 0) y) := by
  obtain ⟨a1, a2⟩ := f2_r_ok h 24 0 x rfl (fun c hc => absurd hc (Nat.not_lt_zero c))
  have hl := f2_Lw h a2
  rw [f2_mx] at hl
  obtain ⟨b1, b2, b3, b4⟩ := f2_lb_ok (f2_r r 24 0 x) 24 0
  unfold f2_t
  generalize f2_r r 24 0 x = y at *
  by_cases c : f2_lb y 24 0 < 24
  · rw [if_pos c]
    have t1 := b4 (by omega)
    generalize f2_lb y 24 0 = b at *
    have rb := a1 b c t1
    have wb : f2_w r b = 0 := (f2_w0 h c).mpr rb
    have y0 : y % 2 ^ 24 ≠ 0 := fun q => by
      have w := congrArg (fun n => n.testBit b) q
      have w : (y % 2 ^ 24).testBit b = (0 : Nat).testBit b := w
      rw [Nat.testBit_mod_two_pow, decide_eq_true c, t1, Nat.zero_testBit] at w
      cases w
    have ew : f2_w (fun e => if e = b then y else r e) = fun e => if e = b then y % 2 ^ 24 else f2_w r e := by
      funext e
      unfold f2_w
      show (if e = b then y else r e) % 2 ^ 24 = _
      by_cases q : e = b
      · rw [if_pos q, if_pos q]
      · rw [if_neg q, if_neg q]
    refine ⟨fun e he => ?_, ?_, fun v => ?_⟩
    · show (if e = b then y else r e) = 0 ∨ (if e = b then y else r e).testBit e = true ∧ ∀ c, c < e → (if e = b then y else r e).testBit c = false
      by_cases q : e = b
      · rw [if_pos q, q]
        exact Or.inr ⟨t1, fun c hc => b3 c (Nat.zero_le _) hc⟩
      · rw [if_neg q]
        exact h e he
    · show (f2_L (f2_w (fun e => if e = b then y else r e)) 24 0).length = _ + 1
      rw [ew, f2_L_u (f2_w r) wb y0, if_pos (by omega)]
    · show f2_s (f2_L (f2_w (fun e => if e = b then y else r e)) 24 0) v ↔ _
      rw [ew]
      refine (f2_L_s (f2_w r) wb y0 c v).trans ?_
      constructor
      · rintro (q | q)
        · exact Or.inl q
        · refine Or.inr ?_
          have w := f2_add _ _ _ q hl
          have e : v ^^^ y % 2 ^ 24 ^^^ (x % 2 ^ 24 ^^^ y % 2 ^ 24) = v ^^^ x % 2 ^ 24 := by rw [Nat.xor_comm (x % 2 ^ 24), Nat.xor_assoc, ← Nat.xor_assoc (y % 2 ^ 24) (y % 2 ^ 24), Nat.xor_self, Nat.zero_xor]
          rwa [e] at w
      · rintro (q | q)
        · exact Or.inl q
        · refine Or.inr ?_
          have w := f2_add _ _ _ q hl
          have e : v ^^^ x % 2 ^ 24 ^^^ (x % 2 ^ 24 ^^^ y % 2 ^ 24) = v ^^^ y % 2 ^ 24 := by rw [Nat.xor_assoc, ← Nat.xor_assoc (x % 2 ^ 24) (x % 2 ^ 24), Nat.xor_self, Nat.zero_xor]
          rwa [e] at w
  · rw [if_neg c]
    have y0 : y % 2 ^ 24 = 0 := Nat.eq_of_testBit_eq (fun i => by
      rw [Nat.testBit_mod_two_pow, Nat.zero_testBit]
      by_cases q : i < 24
      · rw [b3 i (Nat.zero_le _) (by omega), Bool.and_false]
      · rw [decide_eq_false q]
        rfl)
    rw [y0, Nat.xor_zero] at hl
    refine ⟨h, rfl, fun v => ⟨Or.inl, fun q => q.elim id (fun z => ?_)⟩⟩
    have w := f2_add _ _ _ z hl
    rwa [f2_xx] at w
/-- rows whose low part is the coboundary of their tag -/
def f2_tg (D : Nat → Nat) (n x : Nat) : Prop := x % 2 ^ 24 = D (x / 2 ^ 24) ∧ x / 2 ^ 24 < 2 ^ n
theorem f2_xlt {x y n : Nat} (hx : x < 2 ^ n) (hy : y < 2 ^ n) : x ^^^ y < 2 ^ n := Nat.xor_lt_two_pow hx hy
theorem f2_tg_x {D : Nat → Nat} (hD : ∀ x y, D (x ^^^ y) = D x ^^^ D y) {n x y : Nat} (hx : f2_tg D n x) (hy : f2_tg D n y) : f2_tg D n (x ^^^ y) := by
  unfold f2_tg
  rw [f2_mx, f2_dx, hD, hx.1, hy.1]
  exact ⟨rfl, f2_xlt hx.2 hy.2⟩
theorem f2_tg_s {D : Nat → Nat} (h0 : D 0 = 0) (hD : ∀ x y, D (x ^^^ y) = D x ^^^ D y) {n : Nat} : ∀ (l : List Nat), (∀ a, a ∈ l → f2_tg D n a) → ∀ x, f2_s l x → f2_tg D n x
  | [], _, x, hx => by
    rw [show x = 0 from hx]
    exact ⟨h0.symm, Nat.two_pow_pos n⟩
  | a :: l, h, x, hx => by
    rcases hx with hx | hx
    · exact f2_tg_s h0 hD l (fun b hb => h b (List.mem_cons_of_mem a hb)) x hx
    · have z := f2_tg_x hD (f2_tg_s h0 hD l (fun b hb => h b (List.mem_cons_of_mem a hb)) _ hx) (h a List.mem_cons_self)
      rwa [f2_xx] at z
/-- the counter's walk over the edges: rows, and tags of what reduced to nothing -/
def f2_c (D : Nat → Nat) : Nat → (Nat → Nat) × List Nat
  | 0 => (fun _ => 0, [])
  | e + 1 => if f2_lb (f2_r (f2_c D e).1 24 0 (D (2 ^ e) + 2 ^ 24 * 2 ^ e)) 24 0 < 24 then ((f2_t (f2_c D e).1 (D (2 ^ e) + 2 ^ 24 * 2 ^ e)).1, (f2_c D e).2) else ((f2_c D e).1, (f2_c D e).2 ++ [f2_r (f2_c D e).1 24 0 (D (2 ^ e) + 2 ^ 24 * 2 ^ e) / 2 ^ 24])
theorem f2_two {x n : Nat} (h : x < 2 ^ (n + 1)) : x < 2 ^ n ∨ x ^^^ 2 ^ n < 2 ^ n := by
  by_cases c : x.testBit n = true
  · refine Or.inr (Nat.lt_pow_two_of_testBit _ (fun i hi => ?_))
    rw [Nat.testBit_xor, Nat.testBit_two_pow]
    by_cases q : n = i
    · rw [← q, c, decide_eq_true rfl]
      rfl
    · rw [decide_eq_false q, Bool.xor_false]
      exact Nat.testBit_lt_two_pow (Nat.lt_of_lt_of_le h (Nat.pow_le_pow_right (by decide) (by omega)))
  · refine Or.inl (Nat.lt_pow_two_of_testBit _ (fun i hi => ?_))
    by_cases q : n = i
    · rw [← q]
      exact Bool.eq_false_iff.mpr c
    · exact Nat.testBit_lt_two_pow (Nat.lt_of_lt_of_le h (Nat.pow_le_pow_right (by decide) (by omega)))
theorem f2_c_ok {D : Nat → Nat} (h0 : D 0 = 0) (hD : ∀ x y, D (x ^^^ y) = D x ^^^ D y) (hlt : ∀ x, D x < 2 ^ 24) : ∀ e, f2_lo (f2_c D e).1 ∧ (∀ a, a ∈ f2_L (f2_c D e).1 24 0 → f2_tg D e a) ∧ (∀ z, z ∈ (f2_c D e).2 → D z = 0 ∧ z < 2 ^ e) ∧ (∀ z, z < 2 ^ e → f2_s ((f2_L (f2_c D e).1 24 0).map (fun x => x / 2 ^ 24) ++ (f2_c D e).2) z) ∧ (∀ y, f2_s (f2_L (f2_w (f2_c D e).1) 24 0) y ↔ f2_s ((List.range e).map (fun i => D (2 ^ i))) y)
  | 0 => by
    have e0 : ∀ d b, f2_L (fun _ => 0) d b = [] := fun d => by
      induction d with
      | zero => exact fun _ => rfl
      | succ d ih => exact fun b => (if_pos rfl).trans (ih (b + 1))
    refine ⟨fun b _ => Or.inl rfl, fun a ha => ?_, fun z hz => absurd hz (List.not_mem_nil), fun z hz => ?_, fun y => ?_⟩
    · have ha : a ∈ f2_L (fun _ => 0) 24 0 := ha
      rw [e0] at ha
      exact absurd ha (List.not_mem_nil)
    · rw [Nat.pow_zero] at hz
      rw [show z = 0 by omega]
      exact f2_0 _
    · show f2_s (f2_L (f2_w (fun _ => 0)) 24 0) y ↔ _
      rw [show f2_w (fun _ => 0) = fun _ => 0 from rfl, e0]
      exact Iff.rfl
  | e + 1 => by
    obtain ⟨i1, i2, i3, i4, i5⟩ := f2_c_ok h0 hD hlt e
    have hx : f2_tg D (e + 1) (D (2 ^ e) + 2 ^ 24 * 2 ^ e) := by
      have l := hlt (2 ^ e)
      unfold f2_tg
      rw [Nat.add_mul_mod_self_left, Nat.mod_eq_of_lt l, Nat.add_mul_div_left _ _ (Nat.two_pow_pos 24), Nat.div_eq_of_lt l, Nat.zero_add]
      exact ⟨rfl, Nat.pow_lt_pow_right (by decide) (by omega)⟩
    have hx2 : (D (2 ^ e) + 2 ^ 24 * 2 ^ e) / 2 ^ 24 = 2 ^ e := by rw [Nat.add_mul_div_left _ _ (Nat.two_pow_pos 24), Nat.div_eq_of_lt (hlt _), Nat.zero_add]
    have hx3 : (D (2 ^ e) + 2 ^ 24 * 2 ^ e) % 2 ^ 24 = D (2 ^ e) := by rw [Nat.add_mul_mod_self_left, Nat.mod_eq_of_lt (hlt _)]
    have hup : ∀ a, f2_tg D e a → f2_tg D (e + 1) a := fun a ha => ⟨ha.1, Nat.lt_of_lt_of_le ha.2 (Nat.pow_le_pow_right (by decide) (by omega))⟩
    obtain ⟨a1, a2⟩ := f2_r_ok i1 24 0 (D (2 ^ e) + 2 ^ 24 * 2 ^ e) rfl (fun c hc => absurd hc (Nat.not_lt_zero c))
    have tk := f2_t_ok i1 (D (2 ^ e) + 2 ^ 24 * 2 ^ e)
    rw [hx3] at tk
    have hyx := f2_tg_s h0 hD _ (fun a ha => hup a (i2 a ha)) _ a2
    have hy : f2_tg D (e + 1) (f2_r (f2_c D e).1 24 0 (D (2 ^ e) + 2 ^ 24 * 2 ^ e)) := by
      have z := f2_tg_x hD hx hyx
      rwa [← Nat.xor_assoc, Nat.xor_self, Nat.zero_xor] at z
    have htag : f2_s ((f2_L (f2_c D e).1 24 0).map (fun x => x / 2 ^ 24)) (2 ^ e ^^^ f2_r (f2_c D e).1 24 0 (D (2 ^ e) + 2 ^ 24 * 2 ^ e) / 2 ^ 24) := by
      have z := f2_map (φ := fun x => x / 2 ^ 24) rfl f2_dx _ _ a2
      have z : f2_s ((f2_L (f2_c D e).1 24 0).map (fun x => x / 2 ^ 24)) ((D (2 ^ e) + 2 ^ 24 * 2 ^ e ^^^ f2_r (f2_c D e).1 24 0 (D (2 ^ e) + 2 ^ 24 * 2 ^ e)) / 2 ^ 24) := z
      rwa [f2_dx, hx2] at z
    obtain ⟨b1, b2, b3, b4⟩ := f2_lb_ok (f2_r (f2_c D e).1 24 0 (D (2 ^ e) + 2 ^ 24 * 2 ^ e)) 24 0
    have hrange : ∀ y, f2_s ((List.range (e + 1)).map (fun i => D (2 ^ i))) y ↔ f2_s (D (2 ^ e) :: (List.range e).map (fun i => D (2 ^ i))) y := fun y => by
      rw [List.range_succ, List.map_append]
      constructor
      · refine f2_sub _ _ (fun a ha => f2_mem _ a ?_) y
        rcases List.mem_append.mp ha with q | q
        · exact List.mem_cons_of_mem _ q
        · rw [List.mem_singleton.mp q]
          exact List.mem_cons_self
      · refine f2_sub _ _ (fun a ha => f2_mem _ a ?_) y
        rcases List.mem_cons.mp ha with q | q
        · rw [q]
          exact List.mem_append_right _ (List.mem_singleton.mpr rfl)
        · exact List.mem_append_left _ q
    have hcons : ∀ y, f2_s (D (2 ^ e) :: f2_L (f2_w (f2_c D e).1) 24 0) y ↔ f2_s (D (2 ^ e) :: (List.range e).map (fun i => D (2 ^ i))) y := fun y => ⟨fun q => q.imp (i5 _).mp (i5 _).mp, fun q => q.imp (i5 _).mpr (i5 _).mpr⟩
    by_cases c : f2_lb (f2_r (f2_c D e).1 24 0 (D (2 ^ e) + 2 ^ 24 * 2 ^ e)) 24 0 < 24
    · rw [show f2_c D (e + 1) = ((f2_t (f2_c D e).1 (D (2 ^ e) + 2 ^ 24 * 2 ^ e)).1, (f2_c D e).2) from if_pos c]
      have et : (f2_t (f2_c D e).1 (D (2 ^ e) + 2 ^ 24 * 2 ^ e)).1 = fun v => if v = f2_lb (f2_r (f2_c D e).1 24 0 (D (2 ^ e) + 2 ^ 24 * 2 ^ e)) 24 0 then f2_r (f2_c D e).1 24 0 (D (2 ^ e) + 2 ^ 24 * 2 ^ e) else (f2_c D e).1 v := by
        unfold f2_t
        rw [if_pos c]
      have rb := a1 _ c (b4 (by omega))
      have y0 : f2_r (f2_c D e).1 24 0 (D (2 ^ e) + 2 ^ 24 * 2 ^ e) ≠ 0 := fun q => by
        have w := b4 (by omega)
        rw [q, Nat.zero_testBit] at w
        cases w
      refine ⟨tk.1, fun a ha => ?_, fun z hz => ⟨(i3 z hz).1, Nat.lt_of_lt_of_le (i3 z hz).2 (Nat.pow_le_pow_right (by decide) (by omega))⟩, fun z hz => ?_, fun y => (tk.2.2 y).trans ((hcons y).trans (hrange y).symm)⟩
      · have ha : a ∈ f2_L (f2_t (f2_c D e).1 (D (2 ^ e) + 2 ^ 24 * 2 ^ e)).1 24 0 := ha
        rw [et] at ha
        obtain ⟨v, h1, h2, h3, h4⟩ := (f2_L_m _ a 24 0).mp ha
        have h3 : (if v = f2_lb (f2_r (f2_c D e).1 24 0 (D (2 ^ e) + 2 ^ 24 * 2 ^ e)) 24 0 then f2_r (f2_c D e).1 24 0 (D (2 ^ e) + 2 ^ 24 * 2 ^ e) else (f2_c D e).1 v) = a := h3
        by_cases q : v = f2_lb (f2_r (f2_c D e).1 24 0 (D (2 ^ e) + 2 ^ 24 * 2 ^ e)) 24 0
        · rw [if_pos q] at h3
          rw [← h3]
          exact hy
        · rw [if_neg q] at h3
          exact hup a (i2 a ((f2_L_m _ a 24 0).mpr ⟨v, h1, h2, h3, h4⟩))
      · show f2_s ((f2_L (f2_t (f2_c D e).1 (D (2 ^ e) + 2 ^ 24 * 2 ^ e)).1 24 0).map (fun x => x / 2 ^ 24) ++ (f2_c D e).2) z
        rw [et]
        have hold : ∀ u, f2_s ((f2_L (f2_c D e).1 24 0).map (fun x => x / 2 ^ 24) ++ (f2_c D e).2) u → f2_s ((f2_L (fun v => if v = f2_lb (f2_r (f2_c D e).1 24 0 (D (2 ^ e) + 2 ^ 24 * 2 ^ e)) 24 0 then f2_r (f2_c D e).1 24 0 (D (2 ^ e) + 2 ^ 24 * 2 ^ e) else (f2_c D e).1 v) 24 0).map (fun x => x / 2 ^ 24) ++ (f2_c D e).2) u := f2_sub _ _ (fun a ha => f2_mem _ a (by
          rcases List.mem_append.mp ha with q | q
          · refine List.mem_append_left _ ?_
            obtain ⟨u, hu, eu⟩ := List.mem_map.mp q
            obtain ⟨v, h1, h2, h3, h4⟩ := (f2_L_m _ u 24 0).mp hu
            refine List.mem_map.mpr ⟨u, (f2_L_m _ u 24 0).mpr ⟨v, h1, h2, ?_, h4⟩, eu⟩
            show (if v = _ then _ else (f2_c D e).1 v) = u
            rw [if_neg (fun z => h4 (by rw [← h3, z]; exact rb))]
            exact h3
          · exact List.mem_append_right _ q))
        have hnew : f2_s ((f2_L (fun v => if v = f2_lb (f2_r (f2_c D e).1 24 0 (D (2 ^ e) + 2 ^ 24 * 2 ^ e)) 24 0 then f2_r (f2_c D e).1 24 0 (D (2 ^ e) + 2 ^ 24 * 2 ^ e) else (f2_c D e).1 v) 24 0).map (fun x => x / 2 ^ 24) ++ (f2_c D e).2) (f2_r (f2_c D e).1 24 0 (D (2 ^ e) + 2 ^ 24 * 2 ^ e) / 2 ^ 24) := f2_mem _ _ (List.mem_append_left _ (List.mem_map.mpr ⟨_, (f2_L_m _ _ 24 0).mpr ⟨_, Nat.zero_le _, by omega, if_pos rfl, y0⟩, rfl⟩))
        have h2e := f2_add _ _ _ (hold _ (f2_sub _ _ (fun a ha => f2_mem _ a (List.mem_append_left _ ha)) _ htag)) hnew
        rw [f2_xx] at h2e
        rcases f2_two hz with q | q
        · exact hold z (i4 z q)
        · have w := f2_add _ _ _ (hold _ (i4 _ q)) h2e
          rwa [f2_xx] at w
    · rw [show f2_c D (e + 1) = ((f2_c D e).1, (f2_c D e).2 ++ [f2_r (f2_c D e).1 24 0 (D (2 ^ e) + 2 ^ 24 * 2 ^ e) / 2 ^ 24]) from if_neg c]
      have y0 : f2_r (f2_c D e).1 24 0 (D (2 ^ e) + 2 ^ 24 * 2 ^ e) % 2 ^ 24 = 0 := Nat.eq_of_testBit_eq (fun i => by
        rw [Nat.testBit_mod_two_pow, Nat.zero_testBit]
        by_cases q : i < 24
        · rw [b3 i (Nat.zero_le _) (by omega), Bool.and_false]
        · rw [decide_eq_false q]
          rfl)
      have et : (f2_t (f2_c D e).1 (D (2 ^ e) + 2 ^ 24 * 2 ^ e)).1 = (f2_c D e).1 := by
        unfold f2_t
        rw [if_neg c]
      rw [et] at tk
      have hold : ∀ u, f2_s ((f2_L (f2_c D e).1 24 0).map (fun x => x / 2 ^ 24) ++ (f2_c D e).2) u → f2_s ((f2_L (f2_c D e).1 24 0).map (fun x => x / 2 ^ 24) ++ ((f2_c D e).2 ++ [f2_r (f2_c D e).1 24 0 (D (2 ^ e) + 2 ^ 24 * 2 ^ e) / 2 ^ 24])) u := f2_sub _ _ (fun a ha => f2_mem _ a (by
        rw [← List.append_assoc]
        exact List.mem_append_left _ ha))
      have hnew : f2_s ((f2_L (f2_c D e).1 24 0).map (fun x => x / 2 ^ 24) ++ ((f2_c D e).2 ++ [f2_r (f2_c D e).1 24 0 (D (2 ^ e) + 2 ^ 24 * 2 ^ e) / 2 ^ 24])) (f2_r (f2_c D e).1 24 0 (D (2 ^ e) + 2 ^ 24 * 2 ^ e) / 2 ^ 24) := f2_mem _ _ (List.mem_append_right _ (List.mem_append_right _ (List.mem_singleton.mpr rfl)))
      have h2e := f2_add _ _ _ (hold _ (f2_sub _ _ (fun a ha => f2_mem _ a (List.mem_append_left _ ha)) _ htag)) hnew
      rw [f2_xx] at h2e
      refine ⟨i1, fun a ha => hup a (i2 a ha), fun z hz => ?_, fun z hz => ?_, fun y => (tk.2.2 y).trans ((hcons y).trans (hrange y).symm)⟩
      · rcases List.mem_append.mp hz with q | q
        · exact ⟨(i3 z q).1, Nat.lt_of_lt_of_le (i3 z q).2 (Nat.pow_le_pow_right (by decide) (by omega))⟩
        · rw [List.mem_singleton.mp q]
          exact ⟨hy.1.symm.trans y0, hy.2⟩
      · rcases f2_two hz with q | q
        · exact hold z (i4 z q)
        · have w := f2_add _ _ _ (hold _ (i4 _ q)) h2e
          rwa [f2_xx] at w
theorem f2_triv {R : List Nat} : f2_i (R.map (fun x => x % 2 ^ 24)) → ∀ w, f2_s R w → w % 2 ^ 24 = 0 → w = 0 := by
  induction R with
  | nil => exact fun _ w hw _ => hw
  | cons a R ih =>
    intro hi w hw h0
    rcases hw with hw | hw
    · exact ih hi.2 w hw h0
    · refine absurd ?_ hi.1
      have z := f2_map (φ := fun x => x % 2 ^ 24) rfl f2_mx _ _ hw
      have z : f2_s (R.map (fun x => x % 2 ^ 24)) ((w ^^^ a) % 2 ^ 24) := z
      rw [f2_mx, h0, Nat.zero_xor] at z
      exact z
theorem f2_split {R Z : List Nat} : ∀ (z : Nat), f2_s (R.map (fun x => x / 2 ^ 24) ++ Z) z → ∃ w, f2_s R w ∧ f2_s Z (z ^^^ w / 2 ^ 24) := by
  induction R with
  | nil => exact fun z hz => ⟨0, rfl, by rw [Nat.zero_div, Nat.xor_zero]; exact hz⟩
  | cons a R ih =>
    intro z hz
    rcases hz with hz | hz
    · obtain ⟨w, h1, h2⟩ := ih z hz
      exact ⟨w, Or.inl h1, h2⟩
    · obtain ⟨w, h1, h2⟩ := ih _ hz
      refine ⟨w ^^^ a, Or.inr (by rw [f2_xx]; exact h1), ?_⟩
      rw [f2_dx, Nat.xor_comm (w / 2 ^ 24), ← Nat.xor_assoc]
      exact h2
theorem f2_L_map {r : Nat → Nat} (h : f2_lo r) : ∀ d b, b + d ≤ 24 → (f2_L r d b).map (fun x => x % 2 ^ 24) = f2_L (f2_w r) d b
  | 0, _, _ => rfl
  | d + 1, b, hb => by
    have ih := f2_L_map h d (b + 1) (by omega)
    by_cases c : r b = 0
    · rw [show f2_L r (d + 1) b = f2_L r d (b + 1) from if_pos c, show f2_L (f2_w r) (d + 1) b = f2_L (f2_w r) d (b + 1) from if_pos ((f2_w0 h (by omega)).mpr c), ih]
    · rw [show f2_L r (d + 1) b = r b :: f2_L r d (b + 1) from if_neg c, show f2_L (f2_w r) (d + 1) b = f2_w r b :: f2_L (f2_w r) d (b + 1) from if_neg (fun q => c ((f2_w0 h (by omega)).mp q)), List.map_cons, ih]
      rfl
/-- all cocycles are spanned -/
theorem f2_c_all {D : Nat → Nat} (h0 : D 0 = 0) (hD : ∀ x y, D (x ^^^ y) = D x ^^^ D y) (hlt : ∀ x, D x < 2 ^ 24) {n z : Nat} (hz : z < 2 ^ n) (hd : D z = 0) : f2_s (f2_c D n).2 z := by
  obtain ⟨i1, i2, i3, i4, -⟩ := f2_c_ok h0 hD hlt n
  obtain ⟨w, h1, h2⟩ := f2_split z (i4 z hz)
  have hZ : ∀ (l : List Nat), (∀ a, a ∈ l → D a = 0) → ∀ x, f2_s l x → D x = 0 := fun l => by
    induction l with
    | nil =>
      intro _ x hx
      rw [show x = 0 from hx]
      exact h0
    | cons a l ih =>
      intro h x hx
      rcases hx with hx | hx
      · exact ih (fun b hb => h b (List.mem_cons_of_mem a hb)) x hx
      · have q := ih (fun b hb => h b (List.mem_cons_of_mem a hb)) _ hx
        rw [hD, h a List.mem_cons_self, Nat.xor_zero] at q
        exact q
  have h3 := hZ _ (fun a ha => (i3 a ha).1) _ h2
  rw [hD, hd, Nat.zero_xor] at h3
  have h4 := (f2_tg_s h0 hD _ i2 w h1).1
  rw [h3] at h4
  have h5 := f2_triv (by rw [f2_L_map i1 24 0 (by omega)]; exact f2_lo_i (f2_lo_w i1) 24 0 (by omega)) w h1 h4
  rw [h5, Nat.zero_div, Nat.xor_zero] at h2
  exact h2
