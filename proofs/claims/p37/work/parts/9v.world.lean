/-! WHAT THE START GIVES: the fixed parts of the world -/
theorem ga_obj {s : State} {args : Array Value} {C : String} (h : (Cond.arrayOver (.object C)).before args s = true) : ∃ cA, ArrOfT s cA (.object C) ∧ va_RA s cA (.object C) := by
  obtain ⟨comp, cA, kA, h1, -, h3, h4, h5⟩ := Cond.arrayOver_spec h
  exact ⟨cA, fun n z => ⟨fun k h => (by cases h), kA, h3, comp, h4⟩, kA, comp, h3, h4, h1, h5⟩
theorem ga_arr {s : State} {args : Array Value} {t : FieldType} (h : (Cond.arrayOver (.array t)).before args s = true) : ∃ cA, ArrOfT s cA (.array t) ∧ va_RA s cA (.array t) := by
  obtain ⟨comp, cA, kA, h1, h3, h4, h5⟩ := Cond.arrayOver_specA h
  exact ⟨cA, fun n z => ⟨fun k h => (by cases h), kA, h3, comp, h4⟩, h5⟩
theorem ga_int {s : State} {args : Array Value} (h : (Cond.arrayClass .int).before args s = true) : ∃ cA, ArrOfT s cA .int ∧ va_RA s cA .int := by
  obtain ⟨cA, kA, comp, h1, h2, h3⟩ := Cond.arrayClass_spec h
  exact ⟨cA, fun n z => ⟨fun k h => (by cases h), kA, h2, comp, h3⟩, h1⟩
theorem ga_long {s : State} {args : Array Value} (h : (Cond.arrayClass .long).before args s = true) : ∃ cA, ArrOfT s cA .long ∧ va_RA s cA .long := by
  obtain ⟨cA, kA, comp, h1, h2, h3⟩ := Cond.arrayClass_spec h
  exact ⟨cA, fun n z => ⟨fun k h => (by cases h), kA, h2, comp, h3⟩, h1⟩
theorem ga_boolean {s : State} {args : Array Value} (h : (Cond.arrayClass .boolean).before args s = true) : ∃ cA, ArrOfT s cA .boolean ∧ va_RA s cA .boolean := by
  obtain ⟨cA, kA, comp, h1, h2, h3⟩ := Cond.arrayClass_spec h
  exact ⟨cA, fun n z => ⟨fun k h => (by cases h), kA, h2, comp, h3⟩, h1⟩
theorem ao_any {s : State} {args : Array Value} {ty : FieldType} (h : (Cond.arrayOver ty).before args s = true) : va_Nw (.arrayOver ty) s := by
  unfold va_Nw
  simp only [Cond.before, Cond.holds, Cond.value] at h ⊢
  exact h
theorem gst_of {s : State} {args : Array Value} {t : Term} {C : String} (h : (Cond.exactly t C).before args s = true) : ∃ a, t.eval args s none [] s = some (.ref a) := by
  obtain ⟨a, _, _, _, h1, _⟩ := Cond.exactly_spec h
  exact ⟨a, h1⟩
set_option maxHeartbeats 4000000 in
set_option maxRecDepth 100000 in
theorem gw_cl {s : State} {args : Array Value} (hts : ∀ w ∈ lw_tbl, w.before args s = true) : ∃ (dC : Nat → ClassId) (dI : Nat → Nat → Nat), ∀ (ci : Nat) (r : vw_C), vwCl[ci]? = some r → u_Kn s r.1 r.2.1 r.2.2 (dC ci) (dI ci) := by
  have hw : ∀ w ∈ tw_big, w.before args s = true := fun w h => hts w (List.mem_filter.mp h).1
  have tb : ∀ {w : Cond} (i : Nat), tables_1[i]? = some w → w.before args s = true := fun i h => hts _ (List.mem_append_right _ (List.mem_of_getElem? h))
  have h : ∀ ci : Nat, ∃ q : ClassId × (Nat → Nat), ∀ r : vw_C, vwCl[ci]? = some r → u_Kn s r.1 r.2.1 r.2.2 q.1 q.2 := by
    intro ci
    by_cases hci : ci < 14
    · rcases (show ci = 0 ∨ ci = 1 ∨ ci = 2 ∨ ci = 3 ∨ ci = 4 ∨ ci = 5 ∨ ci = 6 ∨ ci = 7 ∨ ci = 8 ∨ ci = 9 ∨ ci = 10 ∨ ci = 11 ∨ ci = 12 ∨ ci = 13 by omega) with rfl | rfl | rfl | rfl | rfl | rfl | rfl | rfl | rfl | rfl | rfl | rfl | rfl | rfl
      · obtain ⟨cC, iS, h⟩ := u_known (C := RJ0) (T := TJ0) (N := 4) (n := 4) hw in_J0 (tb 849 (by decide +kernel))
        exact ⟨(cC, iS), fun r hr => by have e : r = (RJ0, TJ0, 4) := (Option.some.inj hr).symm; subst e; exact h⟩
      · obtain ⟨cC, iS, h⟩ := u_known (C := RJ4) (T := TJ4) (N := 4) (n := 4) hw in_J4 (tb 682 (by decide +kernel))
        exact ⟨(cC, iS), fun r hr => by have e : r = (RJ4, TJ4, 4) := (Option.some.inj hr).symm; subst e; exact h⟩
      · obtain ⟨cC, iS, h⟩ := u_known (C := RJx4a65c) (T := TJx4a65c) (N := 3) (n := 3) hw in_Jx4a65c (tb 44 (by decide +kernel))
        exact ⟨(cC, iS), fun r hr => by have e : r = (RJx4a65c, TJx4a65c, 3) := (Option.some.inj hr).symm; subst e; exact h⟩
      · obtain ⟨cC, iS, h⟩ := u_known (C := RX0) (T := TX0) (N := 15) (n := 15) hw in_X0 (tb 143 (by decide +kernel))
        exact ⟨(cC, iS), fun r hr => by have e : r = (RX0, TX0, 15) := (Option.some.inj hr).symm; subst e; exact h⟩
      · obtain ⟨cC, iS, h⟩ := u_known (C := RX1) (T := TX1) (N := 3) (n := 3) hw in_X1 (tb 257 (by decide +kernel))
        exact ⟨(cC, iS), fun r hr => by have e : r = (RX1, TX1, 3) := (Option.some.inj hr).symm; subst e; exact h⟩
      · obtain ⟨cC, iS, h⟩ := u_known (C := RX3) (T := TX3) (N := 15) (n := 15) hw in_X3 (tb 487 (by decide +kernel))
        exact ⟨(cC, iS), fun r hr => by have e : r = (RX3, TX3, 15) := (Option.some.inj hr).symm; subst e; exact h⟩
      · obtain ⟨cC, iS, h⟩ := u_known (C := RX4) (T := TX4) (N := 10) (n := 10) hw in_X4 (tb 74 (by decide +kernel))
        exact ⟨(cC, iS), fun r hr => by have e : r = (RX4, TX4, 10) := (Option.some.inj hr).symm; subst e; exact h⟩
      · obtain ⟨cC, iS, h⟩ := u_known (C := RX5) (T := TX5) (N := 7) (n := 7) hw in_X5 (tb 986 (by decide +kernel))
        exact ⟨(cC, iS), fun r hr => by have e : r = (RX5, TX5, 7) := (Option.some.inj hr).symm; subst e; exact h⟩
      · obtain ⟨cC, iS, h⟩ := u_known (C := RX6) (T := TX6) (N := 3) (n := 3) hw in_X6 (tb 643 (by decide +kernel))
        exact ⟨(cC, iS), fun r hr => by have e : r = (RX6, TX6, 3) := (Option.some.inj hr).symm; subst e; exact h⟩
      · obtain ⟨cC, iS, h⟩ := u_known (C := RX7) (T := TX7) (N := 4) (n := 4) hw in_X7 (tb 1293 (by decide +kernel))
        exact ⟨(cC, iS), fun r hr => by have e : r = (RX7, TX7, 4) := (Option.some.inj hr).symm; subst e; exact h⟩
      · obtain ⟨cC, iS, h⟩ := u_known (C := RX8) (T := TX8) (N := 11) (n := 11) hw in_X8 (tb 117 (by decide +kernel))
        exact ⟨(cC, iS), fun r hr => by have e : r = (RX8, TX8, 11) := (Option.some.inj hr).symm; subst e; exact h⟩
      · obtain ⟨cC, iS, h⟩ := u_known (C := RX9) (T := TX9) (N := 6) (n := 6) hw in_X9 (tb 248 (by decide +kernel))
        exact ⟨(cC, iS), fun r hr => by have e : r = (RX9, TX9, 6) := (Option.some.inj hr).symm; subst e; exact h⟩
      · obtain ⟨cC, iS, h⟩ := u_known (C := RX10) (T := TX10) (N := 2) (n := 2) hw in_X10 (tb 125 (by decide +kernel))
        exact ⟨(cC, iS), fun r hr => by have e : r = (RX10, TX10, 2) := (Option.some.inj hr).symm; subst e; exact h⟩
      · obtain ⟨cC, iS, h⟩ := u_known (C := RX11) (T := TX11) (N := 12) (n := 12) hw in_X11 (tb 36 (by decide +kernel))
        exact ⟨(cC, iS), fun r hr => by have e : r = (RX11, TX11, 12) := (Option.some.inj hr).symm; subst e; exact h⟩
    · exact ⟨(0, fun _ => 0), fun r hr => absurd (List.getElem?_eq_some_iff.mp hr).1 hci⟩
  obtain ⟨f, hf⟩ := Classical.axiomOfChoice h
  exact ⟨fun ci => (f ci).1, fun ci => (f ci).2, fun ci r hr => hf ci r hr⟩
set_option maxHeartbeats 4000000 in
set_option maxRecDepth 100000 in
theorem gw_ar {s : State} {args : Array Value} (hts : ∀ w ∈ lw_tbl, w.before args s = true) : ∃ t : Nat → ClassId, ∀ j, j < 9 → ArrOfT s (t j) (gA1 j) ∧ va_RA s (t j) (gA1 j) := by
  have tb : ∀ {w : Cond} (i : Nat), tables_1[i]? = some w → w.before args s = true := fun i h => hts _ (List.mem_append_right _ (List.mem_of_getElem? h))
  have h : ∀ j : Nat, ∃ cA : ClassId, j < 9 → ArrOfT s cA (gA1 j) ∧ va_RA s cA (gA1 j) := by
    intro j
    by_cases hj : j < 9
    · rcases (show j = 0 ∨ j = 1 ∨ j = 2 ∨ j = 3 ∨ j = 4 ∨ j = 5 ∨ j = 6 ∨ j = 7 ∨ j = 8 by omega) with rfl | rfl | rfl | rfl | rfl | rfl | rfl | rfl | rfl
      · obtain ⟨cA, h⟩ := ga_int (s := s) (args := args) (tb 115 (by decide +kernel))
        exact ⟨cA, fun _ => h⟩
      · obtain ⟨cA, h⟩ := ga_long (s := s) (args := args) (tb 116 (by decide +kernel))
        exact ⟨cA, fun _ => h⟩
      · obtain ⟨cA, h⟩ := ga_boolean (s := s) (args := args) (tb 140 (by decide +kernel))
        exact ⟨cA, fun _ => h⟩
      · obtain ⟨cA, h⟩ := ga_obj (s := s) (args := args) (C := "Taxmaze$Brackets") (tb 256 (by decide +kernel))
        exact ⟨cA, fun _ => h⟩
      · obtain ⟨cA, h⟩ := ga_obj (s := s) (args := args) (C := "Taxmaze$Person") (tb 70 (by decide +kernel))
        exact ⟨cA, fun _ => h⟩
      · obtain ⟨cA, h⟩ := ga_obj (s := s) (args := args) (C := "Taxmaze$Place") (tb 72 (by decide +kernel))
        exact ⟨cA, fun _ => h⟩
      · obtain ⟨cA, h⟩ := ga_obj (s := s) (args := args) (C := "java/lang/Object") (tb 603 (by decide +kernel))
        exact ⟨cA, fun _ => h⟩
      · obtain ⟨cA, h⟩ := ga_arr (s := s) (args := args) (t := .int) (tb 80 (by decide +kernel))
        exact ⟨cA, fun _ => h⟩
      · obtain ⟨cA, h⟩ := ga_arr (s := s) (args := args) (t := .long) (tb 149 (by decide +kernel))
        exact ⟨cA, fun _ => h⟩
    · exact ⟨0, fun h => absurd h hj⟩
  exact Classical.axiomOfChoice h
set_option maxHeartbeats 4000000 in
set_option maxRecDepth 100000 in
theorem gw_ex {s : State} {b : Nat} (hts : ∀ w ∈ lw_tbl, w.before #[Value.ref b] s = true) (hgv : (Jvm.Cond.and given_1 narrow_1).before #[Value.ref b] s = true) : ∃ G : gW, gB G = s.heap.size ∧ va_K (gD G) vwCl (gTys G) s ∧ gX G s s.heap := by
  have tb : ∀ {w : Cond} (i : Nat), tables_1[i]? = some w → w.before #[Value.ref b] s = true := fun i h => hts _ (List.mem_append_right _ (List.mem_of_getElem? h))
  have hf := flat_of_before _ hgv
  obtain ⟨dC, dI, hD⟩ := gw_cl hts
  obtain ⟨gt, hT⟩ := gw_ar hts
  have hA : ∀ a : Nat, a < s.heap.size → ¬ (fun q : Nat => s.heap.size ≤ q) a := fun a h => Nat.not_le.mpr h
  obtain ⟨t0, hv0, hT0⟩ := va_Tof (s := s) (args := #[Value.ref b]) (tm := .static "java/util/ArrayList" "DEFAULTCAPACITY_EMPTY_ELEMENTDATA" "[Ljava/lang/Object;") (ty := .object "java/lang/Object") (N := 0) (f := fun _ => .null) (A := fun q : Nat => s.heap.size ≤ q) (by decide) (hf _ (by decide +kernel)) (va_eqt (z := 0) (hf _ (by decide +kernel))) (fun j hj => absurd hj (Nat.not_lt_zero j)) hA
  obtain ⟨a1, ha1⟩ := gst_of (hf (.exactly (.string "Taxmaze" 374) "java/lang/String") (by decide +kernel))
  obtain ⟨a2, ha2⟩ := gst_of (hf (.exactly (.string "Taxmaze" 381) "java/lang/String") (by decide +kernel))
  obtain ⟨a3, ha3⟩ := gst_of (hf (.exactly (.string "Taxmaze" 386) "java/lang/String") (by decide +kernel))
  obtain ⟨mi, hmi⟩ := va_Mi.of (hf (.isRef (.mirror "[Ljava/lang/Object;")) (by decide +kernel))
  refine ⟨((dC, dI), gt, s.heap.size, fun k => match k with | 0 => t0 | 1 => a1 | 2 => a2 | 3 => a3 | _ => mi), rfl, ⟨hD, fun k q hk => ?_⟩, ?_⟩
  · have hk9 : k < 9 := by
      have := (List.getElem?_eq_some_iff.mp hk).1
      simpa [gTys] using this
    have e := (gTys_at ((dC, dI), gt, s.heap.size, fun k => match k with | 0 => t0 | 1 => a1 | 2 => a2 | 3 => a3 | _ => mi) hk9).symm.trans hk
    have e2 := (Option.some.inj e).symm
    subst e2
    exact hT k hk9
  · refine ⟨va_Zref (tb 56 (by decide +kernel)) (tb 4 (by decide +kernel)) hv0 hA, hT0, vx_Zqof (tb 403 (by decide +kernel)) (tb 12 (by decide +kernel)) (hf _ (by decide +kernel)) hA, vx_Zqof (tb 405 (by decide +kernel)) (tb 12 (by decide +kernel)) (hf _ (by decide +kernel)) hA, ⟨vk_R.of (tb 417 (by decide +kernel)) ha1, vk_R.of (tb 460 (by decide +kernel)) ha2, vk_R.of (tb 479 (by decide +kernel)) ha3⟩, ⟨va_Nw.of rfl (tb 378 (by decide +kernel)), va_Nw.of rfl (tb 453 (by decide +kernel)), va_Nw.of rfl (tb 472 (by decide +kernel)), ?_, ?_, va_Dc.of (tb 1373 (by decide +kernel)), hmi⟩, ?_, ?_⟩
    · intro Y h_
      rcases List.mem_cons.mp h_ with rfl | h_
      · exact va_Nw.of rfl (tb 380 (by decide +kernel))
      rcases List.mem_cons.mp h_ with rfl | h_
      · exact va_Nw.of rfl (tb 382 (by decide +kernel))
      rcases List.mem_cons.mp h_ with rfl | h_
      · exact va_Nw.of rfl (tb 384 (by decide +kernel))
      exact absurd h_ List.not_mem_nil
    · intro q h_
      rcases List.mem_cons.mp h_ with rfl | h_
      · exact va_Nc.of (hf _ (by decide +kernel))
      rcases List.mem_cons.mp h_ with rfl | h_
      · exact va_Nc.of (hf _ (by decide +kernel))
      rcases List.mem_cons.mp h_ with rfl | h_
      · exact va_Nc.of (hf _ (by decide +kernel))
      exact absurd h_ List.not_mem_nil
    · intro Y h_
      rcases List.mem_cons.mp h_ with rfl | h_
      · exact va_Nw.of rfl (tb 1364 (by decide +kernel))
      rcases List.mem_cons.mp h_ with rfl | h_
      · exact va_Nw.of rfl (tb 1365 (by decide +kernel))
      rcases List.mem_cons.mp h_ with rfl | h_
      · exact va_Nw.of rfl (tb 1368 (by decide +kernel))
      rcases List.mem_cons.mp h_ with rfl | h_
      · exact va_Nw.of rfl (tb 1369 (by decide +kernel))
      exact absurd h_ List.not_mem_nil
    · intro Y h_
      rcases List.mem_cons.mp h_ with rfl | h_
      · exact ao_any (tb 70 (by decide +kernel))
      rcases List.mem_cons.mp h_ with rfl | h_
      · exact ao_any (tb 72 (by decide +kernel))
      rcases List.mem_cons.mp h_ with rfl | h_
      · exact ao_any (tb 256 (by decide +kernel))
      rcases List.mem_cons.mp h_ with rfl | h_
      · exact ao_any (tb 603 (by decide +kernel))
      rcases List.mem_cons.mp h_ with rfl | h_
      · exact ao_any (tb 80 (by decide +kernel))
      rcases List.mem_cons.mp h_ with rfl | h_
      · exact ao_any (tb 149 (by decide +kernel))
      exact absurd h_ List.not_mem_nil
