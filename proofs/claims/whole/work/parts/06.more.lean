section VM
variable {l : Launch} {E : VE} {own : String} {cc : ByteArray} {n : Nat} {ret : Option FieldType} {nm : String} {R : Room} {ws0 : va_W} {mc ms : Nat} {F : vF} {kc ks pc : Nat} {lv : List (Nat × Value)} {st : List Value} {ws : va_W}
theorem nI_inc (a z : Nat) : nI a + Int32.ofInt (z : Int) = nI (a + z) := by
  have h : Int32.ofInt (z : Int) = nI z := Int32.ofInt_eq_ofNat
  rw [h, nI_add]
theorem zn01 (P : Prop) [Decidable P] : narrow .boolean (.int (if P then (1 : Int32) else 0)) = .int (if P then (1 : Int32) else 0) := by split <;> rfl
theorem ite01 {P : Prop} [Decidable P] : ((if P then (1 : Int32) else 0) = 0) ↔ ¬ P := by by_cases h : P <;> simp [h]
theorem Rt.i {v w : Int32} {s : va_W} (h : v = w) : Rt (some (.int w)) s (some (.int v)) s := ⟨by rw [h], rfl⟩
theorem Rt.lg {v w : Int64} {s : va_W} (h : v = w) : Rt (some (.long w)) s (some (.long v)) s := ⟨by rw [h], rfl⟩
theorem Rt.i2 {v w : Int32} {s t : va_W} (h : v = w) (h2 : t = s) : Rt (some (.int w)) s (some (.int v)) t := ⟨by rw [h], h2⟩
theorem Rt.l2 {v w : Int64} {s t : va_W} (h : v = w) (h2 : t = s) : Rt (some (.long w)) s (some (.long v)) t := ⟨by rw [h], h2⟩
theorem Rt.w {s t : va_W} (h : t = s) : Rt none s none t := ⟨rfl, h⟩
theorem v_ialdN {cA : ClassId} {a N : Nat} {f : Nat → Int32} {i : Int32} (q0 t0 j : Nat) (hd : decode cc pc = .ok (.iaload, 1)) (ha : ws[q0]? = some (a, .inl (cA, N, .inl f))) (ht : (TYS E)[t0]? = some (cA, .int)) (hi : i = nI j) (hj : j < N) (hN : N < 2 ^ 31) (k : V l E own cc n ret nm R ws0 mc ms F kc ks (pc + 1) lv (.int (f j) :: st) ws) : V l E own cc n ret nm R ws0 mc ms F kc ks pc lv (.int i :: .ref a :: st) ws := by
  subst hi
  refine v_iald q0 t0 hd ha ht (vp_in_nI hj hN) ?_
  rw [nI_clamp (by omega)]
  exact k
theorem v_baldN {cA : ClassId} {a N : Nat} {f : Nat → Int32} {i : Int32} (q0 t0 j : Nat) (hd : decode cc pc = .ok (.baload, 1)) (ha : ws[q0]? = some (a, .inl (cA, N, .inl f))) (ht : (TYS E)[t0]? = some (cA, .byte)) (hi : i = nI j) (hj : j < N) (hN : N < 2 ^ 31) (k : V l E own cc n ret nm R ws0 mc ms F kc ks (pc + 1) lv (.int (f j) :: st) ws) : V l E own cc n ret nm R ws0 mc ms F kc ks pc lv (.int i :: .ref a :: st) ws := by
  subst hi
  refine v_bald q0 t0 hd ha ht (vp_in_nI hj hN) ?_
  rw [nI_clamp (by omega)]
  exact k
theorem v_zaldN {cA : ClassId} {a N : Nat} {f : Nat → Int32} {i : Int32} (q0 t0 j : Nat) (hd : decode cc pc = .ok (.baload, 1)) (ha : ws[q0]? = some (a, .inl (cA, N, .inl f))) (ht : (TYS E)[t0]? = some (cA, .boolean)) (hi : i = nI j) (hj : j < N) (hN : N < 2 ^ 31) (k : V l E own cc n ret nm R ws0 mc ms F kc ks (pc + 1) lv (.int (f j) :: st) ws) : V l E own cc n ret nm R ws0 mc ms F kc ks pc lv (.int i :: .ref a :: st) ws := by
  subst hi
  refine v_zald q0 t0 hd ha ht (vp_in_nI hj hN) ?_
  rw [nI_clamp (by omega)]
  exact k
theorem v_laldN {cA : ClassId} {a N : Nat} {f : Nat → Int64} {i : Int32} (q0 t0 j : Nat) (hd : decode cc pc = .ok (.laload, 1)) (ha : ws[q0]? = some (a, .inl (cA, N, .inr (.inl f)))) (ht : (TYS E)[t0]? = some (cA, .long)) (hi : i = nI j) (hj : j < N) (hN : N < 2 ^ 31) (k : V l E own cc n ret nm R ws0 mc ms F kc ks (pc + 1) lv (.long (f j) :: st) ws) : V l E own cc n ret nm R ws0 mc ms F kc ks pc lv (.int i :: .ref a :: st) ws := by
  subst hi
  refine v_lald q0 t0 hd ha ht (vp_in_nI hj hN) ?_
  rw [nI_clamp (by omega)]
  exact k
theorem v_iastN {cA : ClassId} {a N : Nat} {f : Nat → Int32} {i : Int32} {x : Int32} {ws' : va_W} (q0 t0 j : Nat) (hd : decode cc pc = .ok (.iastore, 1)) (ha : ws[q0]? = some (a, .inl (cA, N, .inl (f)))) (ht : (TYS E)[t0]? = some (cA, .int)) (hi : i = nI j) (hj : j < N) (hN : N < 2 ^ 31) (hw : ws.set q0 (a, .inl (cA, N, .inl (upd f j x))) = ws') (k : V l E own cc n ret nm R ws0 mc ms F kc ks (pc + 1) lv st ws') : V l E own cc n ret nm R ws0 mc ms F kc ks pc lv (.int x :: .int i :: .ref a :: st) ws := by
  subst hi
  refine v_iast q0 t0 hd ha ht (vp_in_nI hj hN) ?_ k
  rw [nI_clamp (by omega)]
  exact hw
theorem v_bastN {cA : ClassId} {a N : Nat} {f : Nat → Int32} {i : Int32} {x : Int32} {ws' : va_W} (q0 t0 j : Nat) (hd : decode cc pc = .ok (.bastore, 1)) (ha : ws[q0]? = some (a, .inl (cA, N, .inl (f)))) (ht : (TYS E)[t0]? = some (cA, .byte)) (hi : i = nI j) (hj : j < N) (hN : N < 2 ^ 31) (hw : ws.set q0 (a, .inl (cA, N, .inl (upd f j (vp_nar .byte x)))) = ws') (k : V l E own cc n ret nm R ws0 mc ms F kc ks (pc + 1) lv st ws') : V l E own cc n ret nm R ws0 mc ms F kc ks pc lv (.int x :: .int i :: .ref a :: st) ws := by
  subst hi
  refine v_bast q0 t0 hd ha ht (vp_in_nI hj hN) ?_ k
  rw [nI_clamp (by omega)]
  exact hw
theorem v_zastN {cA : ClassId} {a N : Nat} {f : Nat → Int32} {i : Int32} {x : Int32} {ws' : va_W} (q0 t0 j : Nat) (hd : decode cc pc = .ok (.bastore, 1)) (ha : ws[q0]? = some (a, .inl (cA, N, .inl (f)))) (ht : (TYS E)[t0]? = some (cA, .boolean)) (hi : i = nI j) (hj : j < N) (hN : N < 2 ^ 31) (hw : ws.set q0 (a, .inl (cA, N, .inl (upd f j (vp_nar .boolean x)))) = ws') (k : V l E own cc n ret nm R ws0 mc ms F kc ks (pc + 1) lv st ws') : V l E own cc n ret nm R ws0 mc ms F kc ks pc lv (.int x :: .int i :: .ref a :: st) ws := by
  subst hi
  refine v_zast q0 t0 hd ha ht (vp_in_nI hj hN) ?_ k
  rw [nI_clamp (by omega)]
  exact hw
theorem v_lastN {cA : ClassId} {a N : Nat} {f : Nat → Int64} {i : Int32} {x : Int64} {ws' : va_W} (q0 t0 j : Nat) (hd : decode cc pc = .ok (.lastore, 1)) (ha : ws[q0]? = some (a, .inl (cA, N, .inr (.inl (f))))) (ht : (TYS E)[t0]? = some (cA, .long)) (hi : i = nI j) (hj : j < N) (hN : N < 2 ^ 31) (hw : ws.set q0 (a, .inl (cA, N, .inr (.inl (vp_updL f j x)))) = ws') (k : V l E own cc n ret nm R ws0 mc ms F kc ks (pc + 1) lv st ws') : V l E own cc n ret nm R ws0 mc ms F kc ks pc lv (.long x :: .int i :: .ref a :: st) ws := by
  subst hi
  refine v_last q0 t0 hd ha ht (vp_in_nI hj hN) ?_ k
  rw [nI_clamp (by omega)]
  exact hw
theorem v_tlHVN {i : Int32} (j : Nat) (hd : decode cc pc = .ok (.laload, 1)) (hi : i = nI j) (hj : j < 6) (k : V l E own cc n ret nm R ws0 mc ms F kc ks (pc + 1) lv (.long (HVj j) :: st) ws) : V l E own cc n ret nm R ws0 mc ms F kc ks pc lv (.int i :: .ref E.2.2.1 :: st) ws := by
  subst hi
  refine v_tlHV hd (vp_in_nI hj (by omega)) ?_
  rw [nI_clamp (by omega)]
  exact k
theorem v_ifB_eq {P : Prop} [Decidable P] {off : Int} (tgt : Nat) (hd : decode cc pc = .ok (.ifCond .eq off, 3)) (ht : (pc : Int) + off = (tgt : Int)) (kt : ¬ P → V l E own cc n ret nm R ws0 mc ms F kc ks tgt lv st ws) (kf : P → V l E own cc n ret nm R ws0 mc ms F kc ks (pc + 3) lv st ws) : V l E own cc n ret nm R ws0 mc ms F kc ks pc lv (.int (if P then 1 else 0) :: st) ws := v_if_eq tgt hd ht (fun c => kt (ite01.mp c)) (fun c => kf (Decidable.not_not.mp (fun z => c (ite01.mpr z))))
theorem v_ifB_ne {P : Prop} [Decidable P] {off : Int} (tgt : Nat) (hd : decode cc pc = .ok (.ifCond .ne off, 3)) (ht : (pc : Int) + off = (tgt : Int)) (kt : P → V l E own cc n ret nm R ws0 mc ms F kc ks tgt lv st ws) (kf : ¬ P → V l E own cc n ret nm R ws0 mc ms F kc ks (pc + 3) lv st ws) : V l E own cc n ret nm R ws0 mc ms F kc ks pc lv (.int (if P then 1 else 0) :: st) ws := v_if_ne tgt hd ht (fun c => kt (Decidable.not_not.mp (fun z => c (ite01.mpr z)))) (fun c => kf (ite01.mp c))
theorem v_cmpN_eq {a b : Nat} {off : Int} (tgt : Nat) (hd : decode cc pc = .ok (.if_icmp .eq off, 3)) (ht : (pc : Int) + off = (tgt : Int)) (ha : a < 2 ^ 31) (hb : b < 2 ^ 31) (kt : a = b → V l E own cc n ret nm R ws0 mc ms F kc ks tgt lv st ws) (kf : ¬ a = b → V l E own cc n ret nm R ws0 mc ms F kc ks (pc + 3) lv st ws) : V l E own cc n ret nm R ws0 mc ms F kc ks pc lv (.int (nI b) :: .int (nI a) :: st) ws := v_icmp_eq tgt hd ht (fun c => kt ((nI_eq ha hb).mp c)) (fun c => kf (fun z => c ((nI_eq ha hb).mpr z)))
theorem v_cmpN_ne {a b : Nat} {off : Int} (tgt : Nat) (hd : decode cc pc = .ok (.if_icmp .ne off, 3)) (ht : (pc : Int) + off = (tgt : Int)) (ha : a < 2 ^ 31) (hb : b < 2 ^ 31) (kt : ¬ a = b → V l E own cc n ret nm R ws0 mc ms F kc ks tgt lv st ws) (kf : a = b → V l E own cc n ret nm R ws0 mc ms F kc ks (pc + 3) lv st ws) : V l E own cc n ret nm R ws0 mc ms F kc ks pc lv (.int (nI b) :: .int (nI a) :: st) ws := v_icmp_ne tgt hd ht (fun c => kt (fun z => c ((nI_eq ha hb).mpr z))) (fun c => kf ((nI_eq ha hb).mp c))
theorem v_cmpN_lt {a b : Nat} {off : Int} (tgt : Nat) (hd : decode cc pc = .ok (.if_icmp .lt off, 3)) (ht : (pc : Int) + off = (tgt : Int)) (ha : a < 2 ^ 31) (hb : b < 2 ^ 31) (kt : a < b → V l E own cc n ret nm R ws0 mc ms F kc ks tgt lv st ws) (kf : b ≤ a → V l E own cc n ret nm R ws0 mc ms F kc ks (pc + 3) lv st ws) : V l E own cc n ret nm R ws0 mc ms F kc ks pc lv (.int (nI b) :: .int (nI a) :: st) ws := v_icmp_lt tgt hd ht (fun c => kt ((nI_ltI ha hb).mp c)) (fun c => kf (Nat.not_lt.mp (fun z => c ((nI_ltI ha hb).mpr z))))
theorem v_cmpN_ge {a b : Nat} {off : Int} (tgt : Nat) (hd : decode cc pc = .ok (.if_icmp .ge off, 3)) (ht : (pc : Int) + off = (tgt : Int)) (ha : a < 2 ^ 31) (hb : b < 2 ^ 31) (kt : b ≤ a → V l E own cc n ret nm R ws0 mc ms F kc ks tgt lv st ws) (kf : a < b → V l E own cc n ret nm R ws0 mc ms F kc ks (pc + 3) lv st ws) : V l E own cc n ret nm R ws0 mc ms F kc ks pc lv (.int (nI b) :: .int (nI a) :: st) ws := v_icmp_ge tgt hd ht (fun c => kt ((nI_leI hb ha).mp c)) (fun c => kf (Nat.not_le.mp (fun z => c ((nI_leI hb ha).mpr z))))
theorem v_cmpN_gt {a b : Nat} {off : Int} (tgt : Nat) (hd : decode cc pc = .ok (.if_icmp .gt off, 3)) (ht : (pc : Int) + off = (tgt : Int)) (ha : a < 2 ^ 31) (hb : b < 2 ^ 31) (kt : b < a → V l E own cc n ret nm R ws0 mc ms F kc ks tgt lv st ws) (kf : a ≤ b → V l E own cc n ret nm R ws0 mc ms F kc ks (pc + 3) lv st ws) : V l E own cc n ret nm R ws0 mc ms F kc ks pc lv (.int (nI b) :: .int (nI a) :: st) ws := v_icmp_gt tgt hd ht (fun c => kt ((nI_ltI hb ha).mp c)) (fun c => kf (Nat.not_lt.mp (fun z => c ((nI_ltI hb ha).mpr z))))
theorem v_cmpN_le {a b : Nat} {off : Int} (tgt : Nat) (hd : decode cc pc = .ok (.if_icmp .le off, 3)) (ht : (pc : Int) + off = (tgt : Int)) (ha : a < 2 ^ 31) (hb : b < 2 ^ 31) (kt : a ≤ b → V l E own cc n ret nm R ws0 mc ms F kc ks tgt lv st ws) (kf : b < a → V l E own cc n ret nm R ws0 mc ms F kc ks (pc + 3) lv st ws) : V l E own cc n ret nm R ws0 mc ms F kc ks pc lv (.int (nI b) :: .int (nI a) :: st) ws := v_icmp_le tgt hd ht (fun c => kt ((nI_leI ha hb).mp c)) (fun c => kf (Nat.not_le.mp (fun z => c ((nI_leI ha hb).mpr z))))
theorem v_ifN_eq {a : Nat} {off : Int} (tgt : Nat) (hd : decode cc pc = .ok (.ifCond .eq off, 3)) (ht : (pc : Int) + off = (tgt : Int)) (ha : a < 2 ^ 31) (kt : a = 0 → V l E own cc n ret nm R ws0 mc ms F kc ks tgt lv st ws) (kf : ¬ a = 0 → V l E own cc n ret nm R ws0 mc ms F kc ks (pc + 3) lv st ws) : V l E own cc n ret nm R ws0 mc ms F kc ks pc lv (.int (nI a) :: st) ws := v_if_eq tgt hd ht (fun c => kt ((nI_eq ha (by omega)).mp (c.trans nI_0.symm))) (fun c => kf (fun z => c (by rw [z]; rfl)))
theorem v_ifN_ne {a : Nat} {off : Int} (tgt : Nat) (hd : decode cc pc = .ok (.ifCond .ne off, 3)) (ht : (pc : Int) + off = (tgt : Int)) (ha : a < 2 ^ 31) (kt : ¬ a = 0 → V l E own cc n ret nm R ws0 mc ms F kc ks tgt lv st ws) (kf : a = 0 → V l E own cc n ret nm R ws0 mc ms F kc ks (pc + 3) lv st ws) : V l E own cc n ret nm R ws0 mc ms F kc ks pc lv (.int (nI a) :: st) ws := v_if_ne tgt hd ht (fun c => kt (fun z => c (by rw [z]; rfl))) (fun c => kf ((nI_eq ha (by omega)).mp (c.trans nI_0.symm)))
theorem v_ifN_gt {a : Nat} {off : Int} (tgt : Nat) (hd : decode cc pc = .ok (.ifCond .gt off, 3)) (ht : (pc : Int) + off = (tgt : Int)) (ha : a < 2 ^ 31) (kt : 0 < a → V l E own cc n ret nm R ws0 mc ms F kc ks tgt lv st ws) (kf : a = 0 → V l E own cc n ret nm R ws0 mc ms F kc ks (pc + 3) lv st ws) : V l E own cc n ret nm R ws0 mc ms F kc ks pc lv (.int (nI a) :: st) ws := v_if_gt tgt hd ht (fun c => kt ((nI_ltI (by omega) ha).mp (by rw [nI_0]; exact c))) (fun c => kf (Nat.le_zero.mp (Nat.not_lt.mp (fun z => c (by rw [← nI_0]; exact (nI_ltI (by omega) ha).mpr z)))))
theorem v_ifN_le {a : Nat} {off : Int} (tgt : Nat) (hd : decode cc pc = .ok (.ifCond .le off, 3)) (ht : (pc : Int) + off = (tgt : Int)) (ha : a < 2 ^ 31) (kt : a = 0 → V l E own cc n ret nm R ws0 mc ms F kc ks tgt lv st ws) (kf : 0 < a → V l E own cc n ret nm R ws0 mc ms F kc ks (pc + 3) lv st ws) : V l E own cc n ret nm R ws0 mc ms F kc ks pc lv (.int (nI a) :: st) ws := v_if_le tgt hd ht (fun c => kt (Nat.le_zero.mp ((nI_leI ha (by omega)).mp (by rw [nI_0]; exact c)))) (fun c => kf (Nat.pos_of_ne_zero (fun z => c (by rw [z]; decide))))
theorem v_ifN_lt {a : Nat} {off : Int} (tgt : Nat) (hd : decode cc pc = .ok (.ifCond .lt off, 3)) (ht : (pc : Int) + off = (tgt : Int)) (ha : a < 2 ^ 31) (k : V l E own cc n ret nm R ws0 mc ms F kc ks (pc + 3) lv st ws) : V l E own cc n ret nm R ws0 mc ms F kc ks pc lv (.int (nI a) :: st) ws := v_if_lt tgt hd ht (fun c => absurd c (nI_pos ha)) (fun _ => k)
theorem v_ifN_ge {a : Nat} {off : Int} (tgt : Nat) (hd : decode cc pc = .ok (.ifCond .ge off, 3)) (ht : (pc : Int) + off = (tgt : Int)) (ha : a < 2 ^ 31) (k : V l E own cc n ret nm R ws0 mc ms F kc ks tgt lv st ws) : V l E own cc n ret nm R ws0 mc ms F kc ks pc lv (.int (nI a) :: st) ws := v_if_ge tgt hd ht (fun _ => k) (fun c => absurd (nI_pos' ha) c)
theorem v_lc_eq {x y : Int64} {off : Int} (tgt : Nat) (hd : decode cc pc = .ok (.ifCond .eq off, 3)) (ht : (pc : Int) + off = (tgt : Int)) (kt : x = y → V l E own cc n ret nm R ws0 mc ms F kc ks tgt lv st ws) (kf : ¬ x = y → V l E own cc n ret nm R ws0 mc ms F kc ks (pc + 3) lv st ws) : V l E own cc n ret nm R ws0 mc ms F kc ks pc lv (.int (lg_cmp x y) :: st) ws := v_if_eq tgt hd ht (fun c => kt ((lg_cmp_eq x y).mp c)) (fun c => kf (fun z => c ((lg_cmp_eq x y).mpr z)))
theorem v_lc_lt {x y : Int64} {off : Int} (tgt : Nat) (hd : decode cc pc = .ok (.ifCond .lt off, 3)) (ht : (pc : Int) + off = (tgt : Int)) (kt : x < y → V l E own cc n ret nm R ws0 mc ms F kc ks tgt lv st ws) (kf : ¬ x < y → V l E own cc n ret nm R ws0 mc ms F kc ks (pc + 3) lv st ws) : V l E own cc n ret nm R ws0 mc ms F kc ks pc lv (.int (lg_cmp x y) :: st) ws := v_if_lt tgt hd ht (fun c => kt ((lg_cmp_lt x y).mp c)) (fun c => kf (fun z => c ((lg_cmp_lt x y).mpr z)))
theorem v_lc_ge {x y : Int64} {off : Int} (tgt : Nat) (hd : decode cc pc = .ok (.ifCond .ge off, 3)) (ht : (pc : Int) + off = (tgt : Int)) (kt : y ≤ x → V l E own cc n ret nm R ws0 mc ms F kc ks tgt lv st ws) (kf : ¬ y ≤ x → V l E own cc n ret nm R ws0 mc ms F kc ks (pc + 3) lv st ws) : V l E own cc n ret nm R ws0 mc ms F kc ks pc lv (.int (lg_cmp x y) :: st) ws := v_if_ge tgt hd ht (fun c => kt ((lg_cmp_ge x y).mp c)) (fun c => kf (fun z => c ((lg_cmp_ge x y).mpr z)))
theorem v_lc_gt {x y : Int64} {off : Int} (tgt : Nat) (hd : decode cc pc = .ok (.ifCond .gt off, 3)) (ht : (pc : Int) + off = (tgt : Int)) (kt : y < x → V l E own cc n ret nm R ws0 mc ms F kc ks tgt lv st ws) (kf : ¬ y < x → V l E own cc n ret nm R ws0 mc ms F kc ks (pc + 3) lv st ws) : V l E own cc n ret nm R ws0 mc ms F kc ks pc lv (.int (lg_cmp x y) :: st) ws := v_if_gt tgt hd ht (fun c => kt ((lg_cmp_gt x y).mp c)) (fun c => kf (fun z => c ((lg_cmp_gt x y).mpr z)))
theorem v_lc_le {x y : Int64} {off : Int} (tgt : Nat) (hd : decode cc pc = .ok (.ifCond .le off, 3)) (ht : (pc : Int) + off = (tgt : Int)) (kt : x ≤ y → V l E own cc n ret nm R ws0 mc ms F kc ks tgt lv st ws) (kf : ¬ x ≤ y → V l E own cc n ret nm R ws0 mc ms F kc ks (pc + 3) lv st ws) : V l E own cc n ret nm R ws0 mc ms F kc ks pc lv (.int (lg_cmp x y) :: st) ws := v_if_le tgt hd ht (fun c => kt ((lg_cmp_le x y).mp c)) (fun c => kf (fun z => c ((lg_cmp_le x y).mpr z)))
theorem v_lc_ne {x y : Int64} {off : Int} (tgt : Nat) (hd : decode cc pc = .ok (.ifCond .ne off, 3)) (ht : (pc : Int) + off = (tgt : Int)) (kt : ¬ x = y → V l E own cc n ret nm R ws0 mc ms F kc ks tgt lv st ws) (kf : x = y → V l E own cc n ret nm R ws0 mc ms F kc ks (pc + 3) lv st ws) : V l E own cc n ret nm R ws0 mc ms F kc ks pc lv (.int (lg_cmp x y) :: st) ws := v_if_ne tgt hd ht (fun c => kt (fun z => c ((lg_cmp_eq x y).mpr z))) (fun c => kf ((lg_cmp_eq x y).mp c))
theorem v_copy0 {index : Nat} {a a0 : Nat} {c0 c1 : ClassId} {n0 n1 : Nat} {f g : Nat → Int32} {ws' : va_W} (N q0 q1 : Nat) (hd : decode cc pc = .ok (.invokestatic index, 3)) (h1 : Cond.methodLink own index arraycopyName ∈ gT) (h2 : Cond.native arraycopyName ∈ gT) (h3 : Cond.static arraycopyName ∈ gT) (h4 : Cond.initialized "java/lang/System" ∈ gT) (ha0 : ws[q0]? = some (a0, .inl (c0, n0, .inl f))) (ha1 : ws[q1]? = some (a, .inl (c1, n1, .inl g))) (ht0 : (TYS E)[1]? = some (c0, .int)) (ht1 : (TYS E)[1]? = some (c1, .int)) (hN : N < 2 ^ 31) (g4 : N ≤ n0) (g5 : N ≤ n1) (hR : 1 ≤ R.frames ∧ (st.map fun v => v.category).sum + (nativeFrameWords "java/lang/System" "arraycopy" 5 + 11) ≤ R.locals) (hw : ws.set q1 (a, .inl (c1, n1, .inl (va_cpy f g 0 0 N))) = ws') (k : V l E own cc n ret nm R ws0 mc ms F kc ks (pc + 3) lv st ws') : V l E own cc n ret nm R ws0 mc ms F kc ks pc lv (.int (nI N) :: .int 0 :: .ref a :: .int 0 :: .ref a0 :: st) ws := by
  have z : (0 : Int32).toNatClampNeg = 0 := by decide
  refine v_copyi q0 q1 hd h1 h2 h3 h4 ha0 ha1 ht0 ht1 (by decide) (by decide) (nI_pos hN) (by rw [z, nI_clamp hN]; omega) (by rw [z, nI_clamp hN]; omega) hR ?_ k
  rw [z, nI_clamp hN]
  exact hw
theorem v_ldcw {index : Nat} {v : Int32} (hd : decode cc pc = .ok (.ldc_w index, 3)) (hc : Cond.constant own index v ∈ gT) (k : V l E own cc n ret nm R ws0 mc ms F kc ks (pc + 3) lv (.int v :: st) ws) : V l E own cc n ret nm R ws0 mc ms F kc ks pc lv st ws := fun p e s m args below meth c X H locs ls hP hD hS hl => lv_ldcw X.1 X.2.1 X.2.2.2.2.2.1 (X.2.2.2.2.2.2.1 _ hc) hd (k p e s m args below meth c X H locs ls hP hD hS hl)
theorem v_aaldN {cA : ClassId} {C : String} {a N r : Nat} {f : Nat → Option Nat} {i : Int32} (q0 t0 j : Nat) (hd : decode cc pc = .ok (.aaload, 1)) (ha : ws[q0]? = some (a, .inl (cA, N, .inr (.inr (.inr (.inr f)))))) (ht : (TYS E)[t0]? = some (cA, .object C)) (hi : i = nI j) (hj : j < N) (hN : N < 2 ^ 31) (hr : f j = some r) (k : V l E own cc n ret nm R ws0 mc ms F kc ks (pc + 1) lv (.ref r :: st) ws) : V l E own cc n ret nm R ws0 mc ms F kc ks pc lv (.int i :: .ref a :: st) ws := by
  subst hi
  exact v_aald q0 t0 hd ha ht (vp_in_nI hj hN) (by rw [nI_clamp (by omega)]; exact hr) k
end VM
def RtE1 {α : Type} (v : Option Value) (w : α → va_W) : vF := fun a b => a = v ∧ ∃ x, b = w x
theorem RtE1.len {α : Type} {v : Option Value} {w : α → va_W} {is : List Nat} (h : ∀ x, (w x).length = is.length) : ∀ a b, RtE1 v w a b → b.length = is.length := by
  rintro _ _ ⟨-, x, rfl⟩
  exact h x
theorem RtE1.go {α : Type} {v : Option Value} {w : α → va_W} {P : Option Value → va_W → Prop} (h : ∀ x, P v (w x)) : ∀ a b, RtE1 v w a b → P a b := by
  rintro _ _ ⟨rfl, x, rfl⟩
  exact h x
theorem RtE1.i {α : Type} {v z : Int32} {w : α → va_W} {t : va_W} (x : α) (h : z = v) (h2 : t = w x) : RtE1 (some (.int v)) w (some (.int z)) t := ⟨by rw [h], x, h2⟩
theorem RtE1.l {α : Type} {v z : Int64} {w : α → va_W} {t : va_W} (x : α) (h : z = v) (h2 : t = w x) : RtE1 (some (.long v)) w (some (.long z)) t := ⟨by rw [h], x, h2⟩
theorem RtE1.v {α : Type} {w : α → va_W} {t : va_W} (x : α) (h2 : t = w x) : RtE1 none w none t := ⟨rfl, x, h2⟩
def RtE2 {α β : Type} (v : Option Value) (w : α → β → va_W) : vF := fun a b => a = v ∧ ∃ x y, b = w x y
theorem RtE2.len {α β : Type} {v : Option Value} {w : α → β → va_W} {is : List Nat} (h : ∀ x y, (w x y).length = is.length) : ∀ a b, RtE2 v w a b → b.length = is.length := by
  rintro _ _ ⟨-, x, y, rfl⟩
  exact h x y
theorem RtE2.go {α β : Type} {v : Option Value} {w : α → β → va_W} {P : Option Value → va_W → Prop} (h : ∀ x y, P v (w x y)) : ∀ a b, RtE2 v w a b → P a b := by
  rintro _ _ ⟨rfl, x, y, rfl⟩
  exact h x y
theorem RtE2.i {α β : Type} {v z : Int32} {w : α → β → va_W} {t : va_W} (x : α) (y : β) (h : z = v) (h2 : t = w x y) : RtE2 (some (.int v)) w (some (.int z)) t := ⟨by rw [h], x, y, h2⟩
theorem RtE2.l {α β : Type} {v z : Int64} {w : α → β → va_W} {t : va_W} (x : α) (y : β) (h : z = v) (h2 : t = w x y) : RtE2 (some (.long v)) w (some (.long z)) t := ⟨by rw [h], x, y, h2⟩
theorem RtE2.v {α β : Type} {w : α → β → va_W} {t : va_W} (x : α) (y : β) (h2 : t = w x y) : RtE2 none w none t := ⟨rfl, x, y, h2⟩
theorem sw_out2 {x : Int32} (c0 : ¬ x = 0) (c1 : ¬ x = 1) : x.toInt < 0 ∨ 1 < x.toInt := by
  have g0 := lv_neT (a := 0) c0 (by decide)
  have g1 := lv_neT (a := 1) c1 (by decide)
  omega
theorem sw_out3 {x : Int32} (c0 : ¬ x = 0) (c1 : ¬ x = 1) (c2 : ¬ x = 2) : x.toInt < 0 ∨ 2 < x.toInt := by
  have g0 := lv_neT (a := 0) c0 (by decide)
  have g1 := lv_neT (a := 1) c1 (by decide)
  have g2 := lv_neT (a := 2) c2 (by decide)
  omega
theorem sw_out4 {x : Int32} (c0 : ¬ x = 0) (c1 : ¬ x = 1) (c2 : ¬ x = 2) (c3 : ¬ x = 3) : x.toInt < 0 ∨ 3 < x.toInt := by
  have g0 := lv_neT (a := 0) c0 (by decide)
  have g1 := lv_neT (a := 1) c1 (by decide)
  have g2 := lv_neT (a := 2) c2 (by decide)
  have g3 := lv_neT (a := 3) c3 (by decide)
  omega
theorem sw_out5 {x : Int32} (c0 : ¬ x = 0) (c1 : ¬ x = 1) (c2 : ¬ x = 2) (c3 : ¬ x = 3) (c4 : ¬ x = 4) : x.toInt < 0 ∨ 4 < x.toInt := by
  have g0 := lv_neT (a := 0) c0 (by decide)
  have g1 := lv_neT (a := 1) c1 (by decide)
  have g2 := lv_neT (a := 2) c2 (by decide)
  have g3 := lv_neT (a := 3) c3 (by decide)
  have g4 := lv_neT (a := 4) c4 (by decide)
  omega
theorem sw_out6 {x : Int32} (c0 : ¬ x = 0) (c1 : ¬ x = 1) (c2 : ¬ x = 2) (c3 : ¬ x = 3) (c4 : ¬ x = 4) (c5 : ¬ x = 5) : x.toInt < 0 ∨ 5 < x.toInt := by
  have g0 := lv_neT (a := 0) c0 (by decide)
  have g1 := lv_neT (a := 1) c1 (by decide)
  have g2 := lv_neT (a := 2) c2 (by decide)
  have g3 := lv_neT (a := 3) c3 (by decide)
  have g4 := lv_neT (a := 4) c4 (by decide)
  have g5 := lv_neT (a := 5) c5 (by decide)
  omega
theorem sw_out7 {x : Int32} (c0 : ¬ x = 0) (c1 : ¬ x = 1) (c2 : ¬ x = 2) (c3 : ¬ x = 3) (c4 : ¬ x = 4) (c5 : ¬ x = 5) (c6 : ¬ x = 6) : x.toInt < 0 ∨ 6 < x.toInt := by
  have g0 := lv_neT (a := 0) c0 (by decide)
  have g1 := lv_neT (a := 1) c1 (by decide)
  have g2 := lv_neT (a := 2) c2 (by decide)
  have g3 := lv_neT (a := 3) c3 (by decide)
  have g4 := lv_neT (a := 4) c4 (by decide)
  have g5 := lv_neT (a := 5) c5 (by decide)
  have g6 := lv_neT (a := 6) c6 (by decide)
  omega
