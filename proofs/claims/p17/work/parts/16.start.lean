theorem mm_ret_z {ins : Jvm.ClassFile.Instr} {st : List Value} {v : Option Value} (h : mm_ret (some .boolean) ins st = some v) : ins = .ireturn ∧ ∃ x, st = [.int x] ∧ v = some (.int x) := by
  cases ins
  case ireturn =>
    refine ⟨rfl, ?_⟩
    cases st with
    | nil => exact nomatch (show (none : Option (Option Value)) = some v from h)
    | cons a t => cases a with
      | int x => cases t with
        | nil =>
          have h : (if vp_nar .boolean x = x then some (some (.int x)) else none) = some v := h
          split at h
          · cases h
            exact ⟨x, rfl, rfl⟩
          · cases h
        | cons b u => exact nomatch (show (none : Option (Option Value)) = some v from h)
      | _ => cases t <;> exact nomatch (show (none : Option (Option Value)) = some v from h)
  all_goals exact nomatch (show (none : Option (Option Value)) = some v from h)
/-- the cells behind both constructors -/
def k_h0 : mm_H := [.inr (3, [.ref 1, .ref 7, .ref 13, .ref 14, .ref 21, .ref 23, .ref 24]), .inr (0, [.ref 2, .ref 3, .ref 4, .ref 5, .ref 6]), .inl (.int, 256, .inl (x_fill (fun _ => 0) (-1) 256)), zi 256, zi 4, zi 96, zi 4, .inr (0, [.ref 8, .ref 9, .ref 10, .ref 11, .ref 12]), .inl (.int, 256, .inl (x_fill (fun _ => 0) (-1) 256)), zi 256, zi 4, zi 96, zi 4, .inl (.int, 8, .inl (x_idn 8)), .inr (1, [.ref 15, .ref 16, .ref 17, .ref 18, .ref 19, .ref 20, .int 0, .int 0, .int 2147483647, .long 0, .int 0]), zi 2304, zi 2304, zi 31, zi 48, zi 10, zi 10, .inr (2, [.ref 22]), zl 24, zi 24, zi 24, .inr (4, [.ref 26, .ref 27, .ref 28, .int 0, .int 0, .ref 29, .ref 30, .int 0, .ref 31, .ref 32, .ref 33, .int 0, .ref 34, .ref 35, .ref 36]), zb 512, zi 512, .inl (.int, 8, .inl (x_idn 8)), zl 2304, zl 2304, zl 48, zi 24, zi 24, zi 24, zi 24, zi 24]
set_option maxHeartbeats 4000000 in
set_option maxRecDepth 100000 in
/-- THE LAW, from its entry, out of a run of the small machine from the head of its loop -/
theorem whole_run {p : Program} {e : Env} {s : State} {m : MethodId} {below : List Frame} {meth : Method} {c : Code} (l : Launch) {b L : Nat} {xs : Nat → Int32} (C0 : lw_At p s m meth c b L xs) {h1 : mm_H} (hp : mm_E kM (some (L, xs)) 116 18 [some (.retAddr 0), some (.ref 0), some (.ref 25), some (.int 0)] [] k_h0 (some (.int 1), h1)) : W p l e room_1 s m #[Value.ref b] below meth c s.heap [] 0 0 (lw_Z below #[Value.ref b] s) (entryFrame m ([Value.ref b] : List Value).toArray 4) := by
  obtain ⟨hx, hb, hr, hml, hown, hts, hX, hbl, hlocks, hgv⟩ := id C0
  have hbA : ¬ (fun q : Nat => s.heap.size ≤ q) b := Nat.not_le.mpr hbl
  obtain ⟨c0, iS0, hKn0⟩ := u_known (C := kc0) (T := kf0) (N := 5) (n := 5) hts ki0 (hts (.instantiable kc0 5) (kG_in kinst0))
  obtain ⟨c1, iS1, hKn1⟩ := u_known (C := kc1) (T := kf1) (N := 11) (n := 11) hts ki1 (hts (.instantiable kc1 11) (kG_in kinst1))
  obtain ⟨c2, iS2, hKn2⟩ := u_known (C := kc2) (T := kf2) (N := 1) (n := 1) hts ki2 (hts (.instantiable kc2 1) (kG_in kinst2))
  obtain ⟨c3, iS3, hKn3⟩ := u_known (C := kc3) (T := kf3) (N := 7) (n := 7) hts ki3 (hts (.instantiable kc3 7) (kG_in kinst3))
  obtain ⟨c4, iS4, hKn4⟩ := u_known (C := kc4) (T := kf4) (N := 15) (n := 15) hts ki4 (hts (.instantiable kc4 15) (kG_in kinst4))
  obtain ⟨dC, dI, hKc⟩ : ∃ (dC : Nat → ClassId) (dI : Nat → Nat → Nat), ∀ (k : Nat) (q : vw_C), kl[k]? = some q → u_Kn s q.1 q.2.1 q.2.2 (dC k) (dI k) := by
    refine ⟨fun k => if k = 0 then c0 else if k = 1 then c1 else if k = 2 then c2 else if k = 3 then c3 else c4, fun k => if k = 0 then iS0 else if k = 1 then iS1 else if k = 2 then iS2 else if k = 3 then iS3 else iS4, ?_⟩
    intro k q hq
    match k, hq with
    | 0, hq => cases hq; exact hKn0
    | 1, hq => cases hq; exact hKn1
    | 2, hq => cases hq; exact hKn2
    | 3, hq => cases hq; exact hKn3
    | 4, hq => cases hq; exact hKn4
    | k + 5, hq => simp [kl] at hq
  have hK : va_K (dC, dI) kl [] s := ⟨hKc, fun k q h => by simp at h⟩
  have hNW : mm_nw kNW s := fun x hx => va_Nw.of rfl (hts _ (kNW_in x hx))
  have hT : ∀ w ∈ kG, w ∈ lw_tbl := fun w h => kG_in h
  have hown : s.vm.findClass "HoleCounterLaw" = some m.cls := hown
  have C : mc_C p room_1 s m #[Value.ref b] c (dC, dI) (fun q : Nat => s.heap.size ≤ q) 4 "HoleCounterLaw" code lw_tbl kq_116 := ⟨hx, hb, hml, hown, hts, hK, hNW, fun _ h => h, ko_law⟩
  have hl := lv_entry ([.ref b]) (n := 4) (Nat.le_of_ble_eq_true rfl)
  rw [lg_entry_eq]
  generalize (lg_sl ([.ref b]) ++ List.replicate (4 - (lg_sl ([.ref b])).length) Slot.unset).toArray = ls at hl ⊢
  have hl : lv_has ls 4 [(0, .ref b)] := hl
  have J : mc_J p l e room_1 s m #[Value.ref b] below meth c (lw_Z below #[Value.ref b] s) (dC, dI) (fun q : Nat => s.heap.size ≤ q) b 4 0 (fun _ => 0) (fun _ => 0) 0 0 0 [some (.retAddr 0), none, none, none] [] [] := by
    refine mc_new (ci := 3) (N := 7) (N1 := 0) (Cn := kc3) (T := kf3) (ty := kt3) (fs := [.null, .null, .null, .null, .null, .null, .null]) C rfl rfl (fun w h => hT w (kiG3 w h)) kto3 (hT _ kcl_HoleCounterLaw_7) (hT _ kinst3) (hT _ kini_HoleCounter) (by decide +kernel) (fun _ => rfl) rfl (by decide) (by decide) rfl rfl ?_
    refine mc_step C rfl (fun _ => rfl) rfl ?_
    refine mc_init (a := 0) (N1 := 1) (mc := 24) (ms := 6041) (ml := 2) (y := kyi3) (bytes := prog_1_method_1_code) (rm := kri_3) (h1 := [.inr (3, [.ref 1, .ref 7, .ref 13, .ref 14, .ref 21, .ref 23, .ref 24]), .inr (0, [.ref 2, .ref 3, .ref 4, .ref 5, .ref 6]), .inl (.int, 256, .inl (x_fill (fun _ => 0) (-1) 256)), zi 256, zi 4, zi 96, zi 4, .inr (0, [.ref 8, .ref 9, .ref 10, .ref 11, .ref 12]), .inl (.int, 256, .inl (x_fill (fun _ => 0) (-1) 256)), zi 256, zi 4, zi 96, zi 4, .inl (.int, 8, .inl (x_idn 8)), .inr (1, [.ref 15, .ref 16, .ref 17, .ref 18, .ref 19, .ref 20, .int 0, .int 0, .int 2147483647, .long 0, .int 0]), zi 2304, zi 2304, zi 31, zi 48, zi 10, zi 10, .inr (2, [.ref 22]), zl 24, zi 24, zi 24]) C rfl (c_hc l (dC, dI) b) (kG_N hT kwi3) (hT _ kini_HoleCounter) (hT _ kl_HoleCounterLaw_9) (hT _ ksi3) rfl ⟨by decide, by decide, by decide +kernel⟩ ⟨by decide, by decide⟩ rfl rfl (by decide) (by decide) rfl rfl rfl (by decide) ?_
    refine mc_step C rfl (fun _ => rfl) rfl ?_
    refine mc_new (ci := 4) (N := 15) (N1 := 25) (Cn := kc4) (T := kf4) (ty := kt4) (fs := [.null, .null, .null, .int 0, .int 0, .null, .null, .int 0, .null, .null, .null, .int 0, .null, .null, .null]) C rfl rfl (fun w h => hT w (kiG4 w h)) kto4 (hT _ kcl_HoleCounterLaw_10) (hT _ kinst4) (hT _ kini_HoleCounterModel) (by decide +kernel) (fun _ => rfl) rfl (by decide) (by decide) rfl rfl ?_
    refine mc_step C rfl (fun _ => rfl) rfl ?_
    refine mc_init (a := 25) (N1 := 26) (mc := 11) (ms := 5808) (ml := 2) (y := kyi4) (bytes := prog_6_method_1_code) (rm := kri_4) (h1 := [.inr (3, [.ref 1, .ref 7, .ref 13, .ref 14, .ref 21, .ref 23, .ref 24]), .inr (0, [.ref 2, .ref 3, .ref 4, .ref 5, .ref 6]), .inl (.int, 256, .inl (x_fill (fun _ => 0) (-1) 256)), zi 256, zi 4, zi 96, zi 4, .inr (0, [.ref 8, .ref 9, .ref 10, .ref 11, .ref 12]), .inl (.int, 256, .inl (x_fill (fun _ => 0) (-1) 256)), zi 256, zi 4, zi 96, zi 4, .inl (.int, 8, .inl (x_idn 8)), .inr (1, [.ref 15, .ref 16, .ref 17, .ref 18, .ref 19, .ref 20, .int 0, .int 0, .int 2147483647, .long 0, .int 0]), zi 2304, zi 2304, zi 31, zi 48, zi 10, zi 10, .inr (2, [.ref 22]), zl 24, zi 24, zi 24, .inr (4, [.ref 26, .ref 27, .ref 28, .int 0, .int 0, .ref 29, .ref 30, .int 0, .ref 31, .ref 32, .ref 33, .int 0, .ref 34, .ref 35, .ref 36]), zb 512, zi 512, .inl (.int, 8, .inl (x_idn 8)), zl 2304, zl 2304, zl 48, zi 24, zi 24, zi 24, zi 24, zi 24]) C rfl (c_mo l (dC, dI) b) (kG_N hT kwi4) (hT _ kini_HoleCounterModel) (hT _ kl_HoleCounterLaw_12) (hT _ ksi4) rfl ⟨by decide, by decide, by decide +kernel⟩ ⟨by decide, by decide⟩ rfl rfl (by decide) (by decide) rfl rfl rfl (by decide) ?_
    refine mc_step C rfl (fun _ => rfl) rfl ?_
    refine mc_step C rfl (fun _ => rfl) rfl ?_
    refine mc_step C rfl (fun _ => rfl) rfl ?_
    intro d1 d2 ρ κ H locs ls hag hN hA
    obtain ⟨n, hn⟩ := hp
    refine mm_W kM kY kWS kR kB kl 116 kNW l ko_all n (fun n' _ => mm_Met kM kY kWS kR kB kl 116 kNW l ko_all n') (scr := some (L, xs)) (A := fun q : Nat => s.heap.size ≤ q) (M := kq_116) hx hb hml hown hts hK hNW (fun _ h => h) ⟨d1, d2⟩ rfl ko_law (fun n f hf => by cases hf; exact ⟨hX, hbl, hbA⟩) ?_ 18 _ [] _ H locs ls hn hA
    intro pc nx tg ins st L2 H2 locs2 ls2 hc hret hA2
    obtain ⟨hd, -, -⟩ := mm_chk_sp hc
    have hret : mm_ret (some .boolean) ins st = some (some (.int 1)) := hret
    obtain ⟨rfl, x, rfl, ex⟩ := mm_ret_z hret
    cases ex
    refine va_forget (fun q hq => hA2.2.2.2.1.2.2 q hq) ?_
    refine W.widen (k := 37) (n := 11871) (by decide) (by decide) ?_
    exact lw_ret hx hb hr hlocks hd
  exact J (Nat.zero_le _) (Nat.zero_le _) (fun _ => 0) (fun _ => 0) s.heap [] ls (fun j hj => absurd hj (Nat.not_lt_zero j)) (Nat.le_refl _) ⟨fun k q h => by simp [mm_rep] at h, ⟨fun i j p q h => by simp [mm_rep] at h, fun k q h => by simp [mm_rep] at h⟩, fun i ty a h => by simp at h, va_S.rf, ⟨hl.1, rfl, hl.2.1, fun i v hi => by
    match i, hi with
    | 0, hi => cases hi; exact hl.2.2 (0, .ref b) List.mem_cons_self
    | 1, hi => cases hi
    | 2, hi => cases hi
    | 3, hi => cases hi
    | i + 4, hi => simp at hi⟩⟩
