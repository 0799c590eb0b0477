abbrev zi (n : Nat) : mm_C := .inl (.int, n, .inl (fun _ => 0))
abbrev zl (n : Nat) : mm_C := .inl (.long, n, .inr (.inl (fun _ => 0)))
abbrev zb (n : Nat) : mm_C := .inl (.boolean, n, .inl (fun _ => 0))
def x_idn (t : Nat) : Nat → Int32 := fun j => if j < t then nI j else 0
theorem x_idn_0 : x_idn 0 = fun _ => 0 := by
  funext j
  simp [x_idn]
theorem x_idn_s (i : Nat) : upd (x_idn i) i (nI i) = x_idn (i + 1) := by
  funext j
  unfold upd x_idn
  by_cases h1 : j = i
  · subst h1
    simp
  · by_cases h2 : j < i
    · have h3 : j < i + 1 := by omega
      simp [h1, h2, h3]
    · have h3 : ¬ j < i + 1 := by omega
      simp [h1, h2, h3]
set_option maxRecDepth 100000 in
theorem x_fill_EC {h : mm_H} {a n : Nat} {v : Int32} {f : Nat → Int32} (hc : mm_nth h a = some (.inl (.int, n, .inl f))) (hn : n < 2 ^ 31) : mm_EC kM 2 [.ref a, .int v] h (none, h.set a (.inl (.int, n, .inl (x_fill f v n)))) := by
  refine ⟨kq_2, rfl, rfl, ?_⟩
  refine mm_E.s rfl rfl rfl (fun _ => rfl) ?_
  refine mm_E.s rfl rfl rfl (fun _ => rfl) ?_
  refine mm_E.s rfl rfl rfl (fun _ => rfl) ?_
  refine mm_E.al rfl rfl hc ?_
  refine mm_E.s rfl rfl rfl (fun _ => rfl) ?_
  have ha := mm_nth_lt hc
  have e0 : h.set a (.inl (.int, n, .inl f)) = h := by
    apply List.ext_getElem?
    intro j
    rw [List.getElem?_set]
    by_cases hj : a = j
    · subst hj
      rw [mm_nth_eq] at hc
      rw [if_pos rfl, if_pos ha, hc]
    · simp [hj]
  have z := x_fill_loop (v := v) (f := f) hn ha n 0 (by omega) f (by funext j; simp [x_fill])
  rw [e0, nI_0] at z
  exact z
theorem mc_eqh {p : Program} {l : Launch} {e : Env} {R : Room} {s : State} {m : MethodId} {args : Array Value} {below : List Frame} {meth : Method} {c : Code} {Q : State → Prop} {D : va_G} {A : Nat → Prop} {b nL N0 : Nat} {ρ0 : Nat → Nat} {κ0 : Nat → ClassId} {cells slots pc : Nat} {L : mm_L} {st : List Value} {h h' : mm_H} (he : h = h') (k : mc_J p l e R s m args below meth c Q D A b nL N0 ρ0 κ0 cells slots pc L st h') : mc_J p l e R s m args below meth c Q D A b nL N0 ρ0 κ0 cells slots pc L st h := he ▸ k
theorem kobjI : Cond.instanceMethod Lib.objectInit ∈ kG := kG_mem 61 (by decide +kernel) (by decide +kernel)
theorem kobjC : Cond.code Lib.objectInit ⟨#[0xb1]⟩ 1 none ∈ kG := kG_mem 62 (by decide +kernel) (by decide +kernel)
theorem karrInt : Cond.arrayClass .int ∈ kG := kG_mem 88 (by decide +kernel) (by decide +kernel)
theorem karrLong : Cond.arrayClass .long ∈ kG := kG_mem 140 (by decide +kernel) (by decide +kernel)
theorem karrBool : Cond.arrayClass .boolean ∈ kG := kG_mem 486 (by decide +kernel) (by decide +kernel)
theorem kl_HoleCounter_1 : Cond.methodLink "HoleCounter" 1 Lib.objectInit ∈ kG := kG_mem 60 (by decide +kernel) (by decide +kernel)
theorem kl_HoleCounter_Complex_3 : Cond.methodLink "HoleCounter$Complex" 3 Lib.objectInit ∈ kG := kG_mem 68 (by decide +kernel) (by decide +kernel)
theorem kl_HoleCounter_Grid_3 : Cond.methodLink "HoleCounter$Grid" 3 Lib.objectInit ∈ kG := kG_mem 94 (by decide +kernel) (by decide +kernel)
theorem kl_HoleCounter_Span_3 : Cond.methodLink "HoleCounter$Span" 3 Lib.objectInit ∈ kG := kG_mem 135 (by decide +kernel) (by decide +kernel)
theorem kl_HoleCounterModel_1 : Cond.methodLink "HoleCounterModel" 1 Lib.objectInit ∈ kG := kG_mem 439 (by decide +kernel) (by decide +kernel)
def kyi0 : MethodName := ⟨"HoleCounter$Complex", "<init>", "()V"⟩
theorem kwi0 : Cond.code kyi0 prog_2_method_1_code 1 none ∈ kG := kG_mem 67 (by decide +kernel) (by decide +kernel)
theorem ksi0 : Cond.instanceMethod kyi0 ∈ kG := kG_mem 66 (by decide +kernel) (by decide +kernel)
theorem kinst0 : Cond.instantiable "HoleCounter$Complex" 5 ∈ kG := kG_mem 64 (by decide +kernel) (by decide +kernel)
theorem kl_HoleCounter_9 : Cond.methodLink "HoleCounter" 9 kyi0 ∈ kG := kG_mem 65 (by decide +kernel) (by decide +kernel)
def kyi1 : MethodName := ⟨"HoleCounter$Grid", "<init>", "()V"⟩
theorem kwi1 : Cond.code kyi1 prog_3_method_1_code 1 none ∈ kG := kG_mem 93 (by decide +kernel) (by decide +kernel)
theorem ksi1 : Cond.instanceMethod kyi1 ∈ kG := kG_mem 92 (by decide +kernel) (by decide +kernel)
theorem kinst1 : Cond.instantiable "HoleCounter$Grid" 11 ∈ kG := kG_mem 90 (by decide +kernel) (by decide +kernel)
theorem kl_HoleCounter_25 : Cond.methodLink "HoleCounter" 25 kyi1 ∈ kG := kG_mem 91 (by decide +kernel) (by decide +kernel)
def kyi2 : MethodName := ⟨"HoleCounter$Span", "<init>", "()V"⟩
theorem kwi2 : Cond.code kyi2 prog_4_method_1_code 1 none ∈ kG := kG_mem 134 (by decide +kernel) (by decide +kernel)
theorem ksi2 : Cond.instanceMethod kyi2 ∈ kG := kG_mem 133 (by decide +kernel) (by decide +kernel)
theorem kinst2 : Cond.instantiable "HoleCounter$Span" 1 ∈ kG := kG_mem 131 (by decide +kernel) (by decide +kernel)
theorem kl_HoleCounter_32 : Cond.methodLink "HoleCounter" 32 kyi2 ∈ kG := kG_mem 132 (by decide +kernel) (by decide +kernel)
def kyi3 : MethodName := ⟨"HoleCounter", "<init>", "()V"⟩
theorem kwi3 : Cond.code kyi3 prog_1_method_1_code 2 none ∈ kG := kG_mem 59 (by decide +kernel) (by decide +kernel)
theorem ksi3 : Cond.instanceMethod kyi3 ∈ kG := kG_mem 58 (by decide +kernel) (by decide +kernel)
theorem kinst3 : Cond.instantiable "HoleCounter" 7 ∈ kG := kG_mem 56 (by decide +kernel) (by decide +kernel)
theorem kl_HoleCounterLaw_9 : Cond.methodLink "HoleCounterLaw" 9 kyi3 ∈ kG := kG_mem 57 (by decide +kernel) (by decide +kernel)
def kyi4 : MethodName := ⟨"HoleCounterModel", "<init>", "()V"⟩
theorem kwi4 : Cond.code kyi4 prog_6_method_1_code 2 none ∈ kG := kG_mem 438 (by decide +kernel) (by decide +kernel)
theorem ksi4 : Cond.instanceMethod kyi4 ∈ kG := kG_mem 437 (by decide +kernel) (by decide +kernel)
theorem kinst4 : Cond.instantiable "HoleCounterModel" 15 ∈ kG := kG_mem 435 (by decide +kernel) (by decide +kernel)
theorem kl_HoleCounterLaw_12 : Cond.methodLink "HoleCounterLaw" 12 kyi4 ∈ kG := kG_mem 436 (by decide +kernel) (by decide +kernel)
theorem kcl_HoleCounterLaw_7 : Cond.classLink "HoleCounterLaw" 7 "HoleCounter" ∈ kG := kG_mem 55 (by decide +kernel) (by decide +kernel)
theorem kcl_HoleCounter_7 : Cond.classLink "HoleCounter" 7 "HoleCounter$Complex" ∈ kG := kG_mem 63 (by decide +kernel) (by decide +kernel)
theorem kcl_HoleCounter_23 : Cond.classLink "HoleCounter" 23 "HoleCounter$Grid" ∈ kG := kG_mem 89 (by decide +kernel) (by decide +kernel)
theorem kcl_HoleCounter_30 : Cond.classLink "HoleCounter" 30 "HoleCounter$Span" ∈ kG := kG_mem 130 (by decide +kernel) (by decide +kernel)
theorem kcl_HoleCounterLaw_10 : Cond.classLink "HoleCounterLaw" 10 "HoleCounterModel" ∈ kG := kG_mem 434 (by decide +kernel) (by decide +kernel)
def kti_0 : List (Option mm_I) := [some (.aload_n 0, 1, []), some (.invokespecial 3, 4, []), none, none, some (.aload_n 0, 5, []), some (.sipush 256, 8, []), none, none, some (.newarray .int, 10, []), none, some (.putfield 9, 13, []), none, none, some (.aload_n 0, 14, []), some (.getfield 9, 17, []), none, none, some (.iconst (-1), 18, []), some (.invokestatic 15, 21, []), none, none, some (.aload_n 0, 22, []), some (.sipush 256, 25, []), none, none, some (.newarray .int, 27, []), none, some (.putfield 21, 30, []), none, none, some (.aload_n 0, 31, []), some (.iconst 4, 32, []), some (.newarray .int, 34, []), none, some (.putfield 24, 37, []), none, none, some (.aload_n 0, 38, []), some (.bipush 96, 40, []), none, some (.newarray .int, 42, []), none, some (.putfield 27, 45, []), none, none, some (.aload_n 0, 46, []), some (.iconst 4, 47, []), some (.newarray .int, 49, []), none, some (.putfield 30, 52, []), none, none, some (.return_, 53, [])]
theorem khi_0 : mm_all prog_2_method_1_code kti_0 0 = true := by decide +kernel
def kpi_0 : List (Nat × mm_K) := [(9, .inl (0, 0, none)), (15, .inr (.inr (.inl (2, 2, none)))), (21, .inl (0, 1, none)), (24, .inl (0, 2, none)), (27, .inl (0, 3, none)), (30, .inl (0, 4, none))]
def kqi_0 : mm_M := (kti_0, kpi_0, 1, none)
def kri_0 : Room := { frames := 1, cells := 5, slots := 616, locals := 23 }
theorem koi_0 : mm_okW kM kY kWS kR kl 116 kNW kyi0.cls prog_2_method_1_code (Cond.code kyi0 prog_2_method_1_code 1 none :: kG) kri_0 kqi_0 := by
  have hT : ∀ w ∈ kG, w ∈ Cond.code kyi0 prog_2_method_1_code 1 none :: kG := fun w h => List.mem_cons_of_mem _ h
  exact ⟨mm_all_sp khi_0, mm_pool_sp (P := kWord kyi0.cls (Cond.code kyi0 prog_2_method_1_code 1 none :: kG) kri_0) (l := kpi_0) (List.forall_mem_cons.mpr ⟨kd_HoleCounter_Complex_9 hT _, List.forall_mem_cons.mpr ⟨kd_HoleCounter_Complex_15 hT (by decide +kernel), List.forall_mem_cons.mpr ⟨kd_HoleCounter_Complex_21 hT _, List.forall_mem_cons.mpr ⟨kd_HoleCounter_Complex_24 hT _, List.forall_mem_cons.mpr ⟨kd_HoleCounter_Complex_27 hT _, List.forall_mem_cons.mpr ⟨kd_HoleCounter_Complex_30 hT _, fun _ h => absurd h List.not_mem_nil⟩⟩⟩⟩⟩⟩)⟩
def kti_1 : List (Option mm_I) := [some (.aload_n 0, 1, []), some (.invokespecial 3, 4, []), none, none, some (.aload_n 0, 5, []), some (.sipush 2304, 8, []), none, none, some (.newarray .int, 10, []), none, some (.putfield 11, 13, []), none, none, some (.aload_n 0, 14, []), some (.sipush 2304, 17, []), none, none, some (.newarray .int, 19, []), none, some (.putfield 15, 22, []), none, none, some (.aload_n 0, 23, []), some (.bipush 31, 25, []), none, some (.newarray .int, 27, []), none, some (.putfield 18, 30, []), none, none, some (.aload_n 0, 31, []), some (.bipush 48, 33, []), none, some (.newarray .int, 35, []), none, some (.putfield 21, 38, []), none, none, some (.aload_n 0, 39, []), some (.bipush 10, 41, []), none, some (.newarray .int, 43, []), none, some (.putfield 24, 46, []), none, none, some (.aload_n 0, 47, []), some (.bipush 10, 49, []), none, some (.newarray .int, 51, []), none, some (.putfield 27, 54, []), none, none, some (.aload_n 0, 55, []), some (.ldc 30, 57, []), none, some (.putfield 31, 60, []), none, none, some (.return_, 61, [])]
theorem khi_1 : mm_all prog_3_method_1_code kti_1 0 = true := by decide +kernel
def kpi_1 : List (Nat × mm_K) := [(11, .inl (1, 0, none)), (15, .inl (1, 1, none)), (18, .inl (1, 2, none)), (21, .inl (1, 3, none)), (24, .inl (1, 4, none)), (27, .inl (1, 5, none)), (30, .inr (.inl (.int 2147483647))), (31, .inl (1, 8, some .int))]
def kqi_1 : mm_M := (kti_1, kpi_1, 1, none)
def kri_1 : Room := { frames := 1, cells := 6, slots := 4707, locals := 20 }
theorem koi_1 : mm_okW kM kY kWS kR kl 116 kNW kyi1.cls prog_3_method_1_code (Cond.code kyi1 prog_3_method_1_code 1 none :: kG) kri_1 kqi_1 := by
  have hT : ∀ w ∈ kG, w ∈ Cond.code kyi1 prog_3_method_1_code 1 none :: kG := fun w h => List.mem_cons_of_mem _ h
  exact ⟨mm_all_sp khi_1, mm_pool_sp (P := kWord kyi1.cls (Cond.code kyi1 prog_3_method_1_code 1 none :: kG) kri_1) (l := kpi_1) (List.forall_mem_cons.mpr ⟨kd_HoleCounter_Grid_11 hT _, List.forall_mem_cons.mpr ⟨kd_HoleCounter_Grid_15 hT _, List.forall_mem_cons.mpr ⟨kd_HoleCounter_Grid_18 hT _, List.forall_mem_cons.mpr ⟨kd_HoleCounter_Grid_21 hT _, List.forall_mem_cons.mpr ⟨kd_HoleCounter_Grid_24 hT _, List.forall_mem_cons.mpr ⟨kd_HoleCounter_Grid_27 hT _, List.forall_mem_cons.mpr ⟨hT _ kl_HoleCounter_Grid_30, List.forall_mem_cons.mpr ⟨kd_HoleCounter_Grid_31 hT _, fun _ h => absurd h List.not_mem_nil⟩⟩⟩⟩⟩⟩⟩⟩)⟩
def kti_2 : List (Option mm_I) := [some (.aload_n 0, 1, []), some (.invokespecial 3, 4, []), none, none, some (.aload_n 0, 5, []), some (.bipush 24, 7, []), none, some (.newarray .long, 9, []), none, some (.putfield 9, 12, []), none, none, some (.return_, 13, [])]
theorem khi_2 : mm_all prog_4_method_1_code kti_2 0 = true := by decide +kernel
def kpi_2 : List (Nat × mm_K) := [(9, .inl (2, 0, none))]
def kqi_2 : mm_M := (kti_2, kpi_2, 1, none)
def kri_2 : Room := { frames := 1, cells := 1, slots := 24, locals := 20 }
theorem koi_2 : mm_okW kM kY kWS kR kl 116 kNW kyi2.cls prog_4_method_1_code (Cond.code kyi2 prog_4_method_1_code 1 none :: kG) kri_2 kqi_2 := by
  have hT : ∀ w ∈ kG, w ∈ Cond.code kyi2 prog_4_method_1_code 1 none :: kG := fun w h => List.mem_cons_of_mem _ h
  exact ⟨mm_all_sp khi_2, mm_pool_sp (P := kWord kyi2.cls (Cond.code kyi2 prog_4_method_1_code 1 none :: kG) kri_2) (l := kpi_2) (List.forall_mem_cons.mpr ⟨kd_HoleCounter_Span_9 hT _, fun _ h => absurd h List.not_mem_nil⟩)⟩
def kti_3 : List (Option mm_I) := [some (.aload_n 0, 1, []), some (.invokespecial 1, 4, []), none, none, some (.aload_n 0, 5, []), some (.new 7, 8, []), none, none, some (.dup, 9, []), some (.invokespecial 9, 12, []), none, none, some (.putfield 10, 15, []), none, none, some (.aload_n 0, 16, []), some (.new 7, 19, []), none, none, some (.dup, 20, []), some (.invokespecial 9, 23, []), none, none, some (.putfield 16, 26, []), none, none, some (.aload_n 0, 27, []), some (.bipush 8, 29, []), none, some (.newarray .int, 31, []), none, some (.putfield 19, 34, []), none, none, some (.iconst 0, 35, []), some (.istore_n 1, 36, []), some (.iload_n 1, 37, []), some (.bipush 8, 39, []), none, some (.if_icmp .ge 16, 42, [55]), none, none, some (.aload_n 0, 43, []), some (.getfield 19, 46, []), none, none, some (.iload_n 1, 47, []), some (.iload_n 1, 48, []), some (.iastore, 49, []), some (.iinc 1 1, 52, []), none, none, some (.goto (-16), 55, [36]), none, none, some (.aload_n 0, 56, []), some (.new 23, 59, []), none, none, some (.dup, 60, []), some (.invokespecial 25, 63, []), none, none, some (.putfield 26, 66, []), none, none, some (.aload_n 0, 67, []), some (.new 30, 70, []), none, none, some (.dup, 71, []), some (.invokespecial 32, 74, []), none, none, some (.putfield 33, 77, []), none, none, some (.aload_n 0, 78, []), some (.bipush 24, 80, []), none, some (.newarray .int, 82, []), none, some (.putfield 37, 85, []), none, none, some (.aload_n 0, 86, []), some (.bipush 24, 88, []), none, some (.newarray .int, 90, []), none, some (.putfield 40, 93, []), none, none, some (.return_, 94, [])]
theorem khi_3 : mm_all prog_1_method_1_code kti_3 0 = true := by decide +kernel
def kpi_3 : List (Nat × mm_K) := [(10, .inl (3, 0, none)), (16, .inl (3, 1, none)), (19, .inl (3, 2, none)), (26, .inl (3, 3, none)), (33, .inl (3, 4, none)), (37, .inl (3, 5, none)), (40, .inl (3, 6, none))]
def kqi_3 : mm_M := (kti_3, kpi_3, 2, none)
def kri_3 : Room := { frames := 2, cells := 24, slots := 6041, locals := 43 }
theorem koi_3 : mm_okW kM kY kWS kR kl 116 kNW kyi3.cls prog_1_method_1_code (Cond.code kyi3 prog_1_method_1_code 2 none :: kG) kri_3 kqi_3 := by
  have hT : ∀ w ∈ kG, w ∈ Cond.code kyi3 prog_1_method_1_code 2 none :: kG := fun w h => List.mem_cons_of_mem _ h
  exact ⟨mm_all_sp khi_3, mm_pool_sp (P := kWord kyi3.cls (Cond.code kyi3 prog_1_method_1_code 2 none :: kG) kri_3) (l := kpi_3) (List.forall_mem_cons.mpr ⟨kd_HoleCounter_10 hT _, List.forall_mem_cons.mpr ⟨kd_HoleCounter_16 hT _, List.forall_mem_cons.mpr ⟨kd_HoleCounter_19 hT _, List.forall_mem_cons.mpr ⟨kd_HoleCounter_26 hT _, List.forall_mem_cons.mpr ⟨kd_HoleCounter_33 hT _, List.forall_mem_cons.mpr ⟨kd_HoleCounter_37 hT _, List.forall_mem_cons.mpr ⟨kd_HoleCounter_40 hT _, fun _ h => absurd h List.not_mem_nil⟩⟩⟩⟩⟩⟩⟩)⟩
def kti_4 : List (Option mm_I) := [some (.aload_n 0, 1, []), some (.invokespecial 1, 4, []), none, none, some (.aload_n 0, 5, []), some (.sipush 512, 8, []), none, none, some (.newarray .boolean, 10, []), none, some (.putfield 7, 13, []), none, none, some (.aload_n 0, 14, []), some (.sipush 512, 17, []), none, none, some (.newarray .int, 19, []), none, some (.putfield 13, 22, []), none, none, some (.aload_n 0, 23, []), some (.bipush 8, 25, []), none, some (.newarray .int, 27, []), none, some (.putfield 17, 30, []), none, none, some (.aload_n 0, 31, []), some (.sipush 2304, 34, []), none, none, some (.newarray .long, 36, []), none, some (.putfield 20, 39, []), none, none, some (.aload_n 0, 40, []), some (.sipush 2304, 43, []), none, none, some (.newarray .long, 45, []), none, some (.putfield 24, 48, []), none, none, some (.aload_n 0, 49, []), some (.bipush 48, 51, []), none, some (.newarray .long, 53, []), none, some (.putfield 27, 56, []), none, none, some (.aload_n 0, 57, []), some (.bipush 24, 59, []), none, some (.newarray .int, 61, []), none, some (.putfield 30, 64, []), none, none, some (.aload_n 0, 65, []), some (.bipush 24, 67, []), none, some (.newarray .int, 69, []), none, some (.putfield 33, 72, []), none, none, some (.aload_n 0, 73, []), some (.bipush 24, 75, []), none, some (.newarray .int, 77, []), none, some (.putfield 36, 80, []), none, none, some (.aload_n 0, 81, []), some (.bipush 24, 83, []), none, some (.newarray .int, 85, []), none, some (.putfield 39, 88, []), none, none, some (.aload_n 0, 89, []), some (.bipush 24, 91, []), none, some (.newarray .int, 93, []), none, some (.putfield 42, 96, []), none, none, some (.iconst 0, 97, []), some (.istore_n 1, 98, []), some (.iload_n 1, 99, []), some (.bipush 8, 101, []), none, some (.if_icmp .ge 16, 104, [117]), none, none, some (.aload_n 0, 105, []), some (.getfield 17, 108, []), none, none, some (.iload_n 1, 109, []), some (.iload_n 1, 110, []), some (.iastore, 111, []), some (.iinc 1 1, 114, []), none, none, some (.goto (-16), 117, [98]), none, none, some (.return_, 118, [])]
theorem khi_4 : mm_all prog_6_method_1_code kti_4 0 = true := by decide +kernel
def kpi_4 : List (Nat × mm_K) := [(7, .inl (4, 0, none)), (13, .inl (4, 1, none)), (17, .inl (4, 2, none)), (20, .inl (4, 5, none)), (24, .inl (4, 6, none)), (27, .inl (4, 8, none)), (30, .inl (4, 9, none)), (33, .inl (4, 10, none)), (36, .inl (4, 12, none)), (39, .inl (4, 13, none)), (42, .inl (4, 14, none))]
def kqi_4 : mm_M := (kti_4, kpi_4, 2, none)
def kri_4 : Room := { frames := 1, cells := 11, slots := 5808, locals := 20 }
theorem koi_4 : mm_okW kM kY kWS kR kl 116 kNW kyi4.cls prog_6_method_1_code (Cond.code kyi4 prog_6_method_1_code 2 none :: kG) kri_4 kqi_4 := by
  have hT : ∀ w ∈ kG, w ∈ Cond.code kyi4 prog_6_method_1_code 2 none :: kG := fun w h => List.mem_cons_of_mem _ h
  exact ⟨mm_all_sp khi_4, mm_pool_sp (P := kWord kyi4.cls (Cond.code kyi4 prog_6_method_1_code 2 none :: kG) kri_4) (l := kpi_4) (List.forall_mem_cons.mpr ⟨kd_HoleCounterModel_7 hT _, List.forall_mem_cons.mpr ⟨kd_HoleCounterModel_13 hT _, List.forall_mem_cons.mpr ⟨kd_HoleCounterModel_17 hT _, List.forall_mem_cons.mpr ⟨kd_HoleCounterModel_20 hT _, List.forall_mem_cons.mpr ⟨kd_HoleCounterModel_24 hT _, List.forall_mem_cons.mpr ⟨kd_HoleCounterModel_27 hT _, List.forall_mem_cons.mpr ⟨kd_HoleCounterModel_30 hT _, List.forall_mem_cons.mpr ⟨kd_HoleCounterModel_33 hT _, List.forall_mem_cons.mpr ⟨kd_HoleCounterModel_36 hT _, List.forall_mem_cons.mpr ⟨kd_HoleCounterModel_39 hT _, List.forall_mem_cons.mpr ⟨kd_HoleCounterModel_42 hT _, fun _ h => absurd h List.not_mem_nil⟩⟩⟩⟩⟩⟩⟩⟩⟩⟩⟩)⟩
