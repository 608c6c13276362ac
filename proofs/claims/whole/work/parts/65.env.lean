/-! ===== the start: the environment ===== -/
theorem lt_mem {w : Cond} (i : Nat) (h : lw_tbl[i]? = some w) : w ∈ lw_tbl := List.mem_of_getElem? h
theorem hv_mem : ∀ j, j < 6 → Cond.eq (.elem (.static RX4 "HAVING" "[J") (.int (Int32.ofNat j))) (.long (HVj j)) ∈ flatC (Jvm.Cond.and given_1 narrow_1) := by decide +kernel
theorem s_ex : ∀ i, i < 8 → Cond.exactly (.string RX3 (idxS.getD i 0)) "java/lang/String" ∈ flatC (Jvm.Cond.and given_1 narrow_1) := by decide +kernel
theorem s_co : ∀ i, i < 8 → Cond.eq (.field (.string RX3 (idxS.getD i 0)) "java/lang/String" "coder" "B") (.int 0) ∈ flatC (Jvm.Cond.and given_1 narrow_1) := by decide +kernel
theorem s_ar : ∀ i, i < 8 → Cond.arrayOf (.field (.string RX3 (idxS.getD i 0)) "java/lang/String" "value" "[B") .byte ∈ flatC (Jvm.Cond.and given_1 narrow_1) := by decide +kernel
theorem s_le : ∀ i, i < 8 → Cond.eq (.length (.field (.string RX3 (idxS.getD i 0)) "java/lang/String" "value" "[B")) (.int (Int32.ofNat (lenS.getD i 0))) ∈ flatC (Jvm.Cond.and given_1 narrow_1) := by decide +kernel
theorem s_el : ∀ i, i < 8 → ∀ j, j < lenS.getD i 0 → Cond.eq (.elem (.field (.string RX3 (idxS.getD i 0)) "java/lang/String" "value" "[B") (.int (Int32.ofNat j))) (.int ((bytS.getD i []).getD j 0)) ∈ flatC (Jvm.Cond.and given_1 narrow_1) := by decide +kernel
theorem s_ne : ∀ i, i < 8 → ∀ j, j < 8 → i ≠ j → Cond.not (Cond.eq (.string RX3 (idxS.getD i 0)) (.string RX3 (idxS.getD j 0))) ∈ flatC (Jvm.Cond.and given_1 narrow_1) ∨ Cond.not (Cond.eq (.string RX3 (idxS.getD j 0)) (.string RX3 (idxS.getD i 0))) ∈ flatC (Jvm.Cond.and given_1 narrow_1) := by decide +kernel
theorem s_ln : ∀ i, i < 8 → lenS.getD i 0 < 2 ^ 31 := by decide
theorem s_rf : ∀ i, i < 8 → Cond.stringRef RX3 (idxS.getD i 0) (txS.getD i "") ∈ lw_tbl := by
  intro i hi
  rcases (show i = 0 ∨ i = 1 ∨ i = 2 ∨ i = 3 ∨ i = 4 ∨ i = 5 ∨ i = 6 ∨ i = 7 by omega) with rfl | rfl | rfl | rfl | rfl | rfl | rfl | rfl
  · exact lt_mem 319 (by decide +kernel)
  · exact lt_mem 384 (by decide +kernel)
  · exact lt_mem 404 (by decide +kernel)
  · exact lt_mem 405 (by decide +kernel)
  · exact lt_mem 410 (by decide +kernel)
  · exact lt_mem 411 (by decide +kernel)
  · exact lt_mem 416 (by decide +kernel)
  · exact lt_mem 421 (by decide +kernel)
theorem env_start {s : State} {b : Nat} (hts : ∀ w ∈ lw_tbl, w.before #[Value.ref b] s = true) (hgv : (Jvm.Cond.and given_1 narrow_1).before #[Value.ref b] s = true) : ∃ E : VE, va_K E.1 vwCl (TYS E) s ∧ vEV E (va_A [] s.heap.size) s s.heap := by
  have hg : ∀ w ∈ gT, w.before #[Value.ref b] s = true := fun w hw => hts w (List.mem_filter.mp hw).1
  have hf := flat_of_before _ hgv
  have hA : ∀ a : Nat, a < s.heap.size → ¬ va_A [] s.heap.size a := fun a h q => absurd (A_nil q) (Nat.not_le.mpr h)
  obtain ⟨c0, i0, k0⟩ := u_known (C := RX0) (T := TX0) (N := 2) (n := 2) hg uX0 (hg _ tb_154)
  obtain ⟨c1, i1, k1⟩ := u_known (C := RX1) (T := TX1) (N := 3) (n := 3) hg uX1 (hg _ tb_223)
  obtain ⟨c2, i2, k2⟩ := u_known (C := RX2) (T := TX2) (N := 12) (n := 12) hg uX2 (hg _ tb_82)
  obtain ⟨c3, i3, k3⟩ := u_known (C := RX3) (T := TX3) (N := 13) (n := 13) hg uX3 (hg _ tb_169)
  obtain ⟨c4, i4, k4⟩ := u_known (C := RX4) (T := TX4) (N := 11) (n := 11) hg uX4 (hg _ tb_74)
  obtain ⟨c5, i5, k5⟩ := u_known (C := RX5) (T := TX5) (N := 29) (n := 29) hg uX5 (hg _ tb_782)
  obtain ⟨b0, q0, p0, f0, g0, h0⟩ := Cond.arrayClass_spec (hg _ tb_220)
  obtain ⟨b1, q1, p1, f1, g1, h1⟩ := Cond.arrayClass_spec (hg _ tb_151)
  obtain ⟨b2, q2, p2, f2, g2, h2⟩ := Cond.arrayClass_spec (hg _ tb_167)
  obtain ⟨b3, q3, p3, f3, g3, h3⟩ := Cond.arrayClass_spec (hg _ tb_166)
  have ao4 : (Cond.arrayOver (.object RX1)).before #[Value.ref b] s = true := hts _ (lt_mem 222 (by decide +kernel))
  obtain ⟨p4, b4, q4, f4, -, g4, h4, e4⟩ := Cond.arrayOver_spec ao4
  have ao5 : (Cond.arrayOver (.object RX2)).before #[Value.ref b] s = true := hts _ (lt_mem 152 (by decide +kernel))
  obtain ⟨p5, b5, q5, f5, -, g5, h5, e5⟩ := Cond.arrayOver_spec ao5
  obtain ⟨t, ht, hT⟩ := va_Tof (args := #[Value.ref b]) (s := s) (tm := (.static RX4 "HAVING" "[J")) (ty := .long) (N := 6) (f := fun j => .long (HVj j)) (A := va_A [] s.heap.size) (by decide) (hf _ (by decide +kernel)) (Cond.eq_int (hf (.eq (.length (.static RX4 "HAVING" "[J")) (.int 6)) (by decide +kernel)) rfl) (fun j hj => Cond.eq_long (hf _ (hv_mem j hj)) rfl) hA
  obtain ⟨adK, adV, hS, hR⟩ := vk_Sof (args := #[Value.ref b]) (s := s) (N := 8) (tm := fun i => .string RX3 (idxS.getD i 0)) (len := lenS) (byt := bytS) (A := va_A [] s.heap.size) s_ln (fun i hi => hf _ (s_ex i hi)) (fun i hi => hf _ (s_co i hi)) (fun i hi => hf _ (s_ar i hi)) (fun i hi => hf _ (s_le i hi)) (fun i hi j hj => hf _ (s_el i hi j hj)) (fun i j hi hj hn => (s_ne i hi j hj hn).imp (hf _) (hf _)) hA
  refine ⟨((fun k => if k = 0 then c0 else if k = 1 then c1 else if k = 2 then c2 else if k = 3 then c3 else if k = 4 then c4 else c5, fun k => if k = 0 then i0 else if k = 1 then i1 else if k = 2 then i2 else if k = 3 then i3 else if k = 4 then i4 else i5), (fun k => if k = 0 then b0 else if k = 1 then b1 else if k = 2 then b2 else if k = 3 then b3 else if k = 4 then b4 else b5), t, adK, adV), ⟨fun k q hq => ?_, fun k q hq => ?_⟩, ⟨⟨va_Nw.of rfl (hts _ (lt_mem 547 (by decide +kernel))), va_Nw.of rfl (hts _ (lt_mem 457 (by decide +kernel))), va_Nw.of rfl (hts _ (lt_mem 397 (by decide +kernel))), va_Nw.of rfl (hts _ (lt_mem 552 (by decide +kernel))), va_AO.of ao4, va_AO.of ao5, fun i hi => vk_R.of (hts _ (s_rf i hi)) (hR i hi)⟩, va_Zref (hts _ (lt_mem 553 (by decide +kernel))) (hg _ tb_58) ht hA, hT, va_Zof (hts _ (lt_mem 333 (by decide +kernel))) (hg _ tb_65) (Cond.eq_int (hf (.eq (.static RJ0 "COMPACT_STRINGS" "Z") (.int 1)) (by decide +kernel)) rfl) hA, hS, va_Zqof (hts _ (lt_mem 349 (by decide +kernel))) (hg _ tb_67) (hf _ (by decide +kernel)) hA⟩⟩
  · match k, hq with
    | 0, hq => cases hq; exact k0
    | 1, hq => cases hq; exact k1
    | 2, hq => cases hq; exact k2
    | 3, hq => cases hq; exact k3
    | 4, hq => cases hq; exact k4
    | 5, hq => cases hq; exact k5
    | k + 6, hq => simp [vwCl] at hq
  · match k, hq with
    | 0, hq => cases hq; exact ⟨fun n z => ⟨fun k h => (by cases h), q0, g0, p0, h0⟩, f0⟩
    | 1, hq => cases hq; exact ⟨fun n z => ⟨fun k h => (by cases h), q1, g1, p1, h1⟩, f1⟩
    | 2, hq => cases hq; exact ⟨fun n z => ⟨fun k h => (by cases h), q2, g2, p2, h2⟩, f2⟩
    | 3, hq => cases hq; exact ⟨fun n z => ⟨fun k h => (by cases h), q3, g3, p3, h3⟩, f3⟩
    | 4, hq => cases hq; exact ⟨fun n z => ⟨fun k h => (by cases h), q4, g4, p4, h4⟩, ⟨q4, p4, g4, h4, f4, e4⟩⟩
    | 5, hq => cases hq; exact ⟨fun n z => ⟨fun k h => (by cases h), q5, g5, p5, h5⟩, ⟨q5, p5, g5, h5, f5, e5⟩⟩
    | k + 6, hq => simp [TYS] at hq
