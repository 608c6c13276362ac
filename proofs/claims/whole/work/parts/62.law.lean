/-! ===== the law: its own steps ===== -/
def LX (E : VE) (p : Program) (s : State) (m : MethodId) (meth : Method) (c : Code) (b L : Nat) (xs : Nat → Int32) : Prop := Cx E RL cL_law 4 ret meth.name [] p s m #[Value.ref b] meth c ∧ va_X b L xs s s.heap ∧ b < s.heap.size
def LV (l : Launch) (E : VE) (p : Program) (e : Env) (s : State) (m : MethodId) (below : List Frame) (meth : Method) (c : Code) (b kc ks pc : Nat) (lv : List (Nat × Value)) (st : List Value) (ws : va_W) : Prop :=
  ∀ (H : Heap) (locs : List Loc) (ls : Array Slot), va_P E.1 vwCl ws H → va_D (va_A [] s.heap.size) ws → va_S (va_A [] s.heap.size) s.heap H locs → lv_has ls 4 lv → W p l e room_1 s m #[Value.ref b] below meth c H locs kc ks (lw_Z below #[Value.ref b] s) (F0 m pc ls st)
section LW
variable {l : Launch} {E : VE} {p : Program} {e : Env} {s : State} {m : MethodId} {below : List Frame} {meth : Method} {c : Code} {b L : Nat} {xs : Nat → Int32} {kc ks pc : Nat} {lv : List (Nat × Value)} {st : List Value} {ws : va_W}
theorem A_nil {n q : Nat} (h : va_A [] n q) : n ≤ q := by
  rcases h with ⟨j, x, h⟩ | h
  · simp at h
  · exact h
theorem g_nb (X : LX E p s m meth c b L xs) : ¬ va_A [] s.heap.size b := fun h => absurd (A_nil h) (Nat.not_le.mpr X.2.2)
theorem g_al {k : Fin 4} {i a : Nat} (X : LX E p s m meth c b L xs) (q : Nat) (hd : decode cL_law pc = .ok (.aload_n k, 1)) (hi : (k : Nat) = i) (hq : lv[q]? = some (i, .ref a)) (kk : LV l E p e s m below meth c b kc ks (pc + 1) lv (.ref a :: st) ws) : LV l E p e s m below meth c b kc ks pc lv st ws := fun H locs ls hP hD hS hl => lv_aload_n X.1.1 X.1.2.1 hd hi (lv_at hl q hq) (kk H locs ls hP hD hS hl)
theorem g_il {k : Fin 4} {i : Nat} {x : Int32} (X : LX E p s m meth c b L xs) (q : Nat) (hd : decode cL_law pc = .ok (.iload_n k, 1)) (hi : (k : Nat) = i) (hq : lv[q]? = some (i, .int x)) (kk : LV l E p e s m below meth c b kc ks (pc + 1) lv (.int x :: st) ws) : LV l E p e s m below meth c b kc ks pc lv st ws := fun H locs ls hP hD hS hl => lv_iload_n X.1.1 X.1.2.1 hd hi (lv_at hl q hq) (kk H locs ls hP hD hS hl)
theorem g_ic {n : Int} {v : Int32} (X : LX E p s m meth c b L xs) (hd : decode cL_law pc = .ok (.iconst n, 1)) (hv : Int32.ofInt n = v) (kk : LV l E p e s m below meth c b kc ks (pc + 1) lv (.int v :: st) ws) : LV l E p e s m below meth c b kc ks pc lv st ws := fun H locs ls hP hD hS hl => lv_iconst X.1.1 X.1.2.1 hd hv (kk H locs ls hP hD hS hl)
theorem g_bp {n : Int} {v : Int32} (X : LX E p s m meth c b L xs) (hd : decode cL_law pc = .ok (.bipush n, 2)) (hv : (Int8.ofInt n).toInt32 = v) (kk : LV l E p e s m below meth c b kc ks (pc + 2) lv (.int v :: st) ws) : LV l E p e s m below meth c b kc ks pc lv st ws := fun H locs ls hP hD hS hl => lv_bipush X.1.1 X.1.2.1 hd hv (kk H locs ls hP hD hS hl)
theorem g_iadd {x y : Int32} (X : LX E p s m meth c b L xs) (hd : decode cL_law pc = .ok (.iadd, 1)) (kk : LV l E p e s m below meth c b kc ks (pc + 1) lv (.int (x + y) :: st) ws) : LV l E p e s m below meth c b kc ks pc lv (.int y :: .int x :: st) ws := fun H locs ls hP hD hS hl => lv_iadd X.1.1 X.1.2.1 hd (kk H locs ls hP hD hS hl)
theorem g_isub {x y : Int32} (X : LX E p s m meth c b L xs) (hd : decode cL_law pc = .ok (.isub, 1)) (kk : LV l E p e s m below meth c b kc ks (pc + 1) lv (.int (x - y) :: st) ws) : LV l E p e s m below meth c b kc ks pc lv (.int y :: .int x :: st) ws := fun H locs ls hP hD hS hl => lv_isub X.1.1 X.1.2.1 hd (kk H locs ls hP hD hS hl)
theorem g_iand {x y : Int32} (X : LX E p s m meth c b L xs) (hd : decode cL_law pc = .ok (.iand, 1)) (kk : LV l E p e s m below meth c b kc ks (pc + 1) lv (.int (x &&& y) :: st) ws) : LV l E p e s m below meth c b kc ks pc lv (.int y :: .int x :: st) ws := fun H locs ls hP hD hS hl => lv_iand X.1.1 X.1.2.1 hd (kk H locs ls hP hD hS hl)
theorem g_sld {i : Int32} (X : LX E p s m meth c b L xs) (hd : decode cL_law pc = .ok (.iaload, 1)) (hi : vp_in i L) (kk : LV l E p e s m below meth c b kc ks (pc + 1) lv (.int (xs i.toNatClampNeg) :: st) ws) : LV l E p e s m below meth c b kc ks pc lv (.int i :: .ref b :: st) ws := fun H locs ls hP hD hS hl => va_sld X.1.1 X.1.2.1 X.2.1 X.2.2 (g_nb X) hS hi hd (kk H locs ls hP hD hS hl)
theorem g_slen  (X : LX E p s m meth c b L xs) (hd : decode cL_law pc = .ok (.arraylength, 1)) (kk : LV l E p e s m below meth c b kc ks (pc + 1) lv (.int (nI L) :: st) ws) : LV l E p e s m below meth c b kc ks pc lv (.ref b :: st) ws := fun H locs ls hP hD hS hl => va_slen X.1.1 X.1.2.1 X.2.1 X.2.2 (g_nb X) hS hd (kk H locs ls hP hD hS hl)
theorem g_goto {off : Int} {tgt : Nat} (X : LX E p s m meth c b L xs) (hd : decode cL_law pc = .ok (.goto off, 3)) (ht : (pc : Int) + off = (tgt : Int)) (kk : LV l E p e s m below meth c b kc ks tgt lv st ws) : LV l E p e s m below meth c b kc ks pc lv st ws := fun H locs ls hP hD hS hl => lv_goto X.1.1 X.1.2.1 hd ht (kk H locs ls hP hD hS hl)
theorem g_dup {va : Value} (X : LX E p s m meth c b L xs) (hd : decode cL_law pc = .ok (.dup, 1)) (hva : va.category = 1) (kk : LV l E p e s m below meth c b kc ks (pc + 1) lv (va :: va :: st) ws) : LV l E p e s m below meth c b kc ks pc lv (va :: st) ws := fun H locs ls hP hD hS hl => lv_dup X.1.1 X.1.2.1 hd hva (kk H locs ls hP hD hS hl)
theorem g_st {st' : List Value} (h : st = st') (kk : LV l E p e s m below meth c b kc ks pc lv st' ws) : LV l E p e s m below meth c b kc ks pc lv st ws := h ▸ kk
theorem g_lv {lv' : List (Nat × Value)} (is : List Nat) (h : lv_pick lv is = lv') (kk : LV l E p e s m below meth c b kc ks pc lv' st ws) : LV l E p e s m below meth c b kc ks pc lv st ws := fun H locs ls hP hD hS hl => kk H locs ls hP hD hS (lv_sub hl is h)
theorem g_as {k : Fin 4} {i a : Nat} {lv' : List (Nat × Value)} (X : LX E p s m meth c b L xs) (hd : decode cL_law pc = .ok (.astore_n k, 1)) (hi : (k : Nat) = i) (hn : i < 4) (hl' : (i, Value.ref a) :: lv.filter (fun q => !(q.1 == i) && !(q.1 + 1 == i && q.2.category == 2)) = lv') (kk : LV l E p e s m below meth c b kc ks (pc + 1) lv' st ws) : LV l E p e s m below meth c b kc ks pc lv (.ref a :: st) ws := fun H locs ls hP hD hS hl => lv_astore_n X.1.1 X.1.2.1 hd hi hl hn hl' (fun ls' h => kk H locs ls' hP hD hS h)
theorem g_is {k : Fin 4} {i : Nat} {x : Int32} {lv' : List (Nat × Value)} (X : LX E p s m meth c b L xs) (hd : decode cL_law pc = .ok (.istore_n k, 1)) (hi : (k : Nat) = i) (hn : i < 4) (hl' : (i, Value.int x) :: lv.filter (fun q => !(q.1 == i) && !(q.1 + 1 == i && q.2.category == 2)) = lv') (kk : LV l E p e s m below meth c b kc ks (pc + 1) lv' st ws) : LV l E p e s m below meth c b kc ks pc lv (.int x :: st) ws := fun H locs ls hP hD hS hl => lv_istore_n X.1.1 X.1.2.1 hd hi hl hn hl' (fun ls' h => kk H locs ls' hP hD hS h)
theorem g_inc {i : Nat} {n : Int} {x v : Int32} {lv' : List (Nat × Value)} (X : LX E p s m meth c b L xs) (q : Nat) (hd : decode cL_law pc = .ok (.iinc i n, 3)) (hq : lv[q]? = some (i, .int x)) (hv : x + Int32.ofInt n = v) (hn : i < 4) (hl' : (i, Value.int v) :: lv.filter (fun q => !(q.1 == i) && !(q.1 + 1 == i && q.2.category == 2)) = lv') (kk : LV l E p e s m below meth c b kc ks (pc + 3) lv' st ws) : LV l E p e s m below meth c b kc ks pc lv st ws := fun H locs ls hP hD hS hl => lv_iinc X.1.1 X.1.2.1 hd hl hq hv hn hl' (fun ls' h => kk H locs ls' hP hD hS h)
theorem g_eq {x : Int32} {off : Int} {tgt : Nat} (X : LX E p s m meth c b L xs) (hd : decode cL_law pc = .ok (.if_icmp .eq off, 3)) (ht : (pc : Int) + off = (tgt : Int)) (kk : LV l E p e s m below meth c b kc ks tgt lv st ws) : LV l E p e s m below meth c b kc ks pc lv (.int x :: .int x :: st) ws := fun H locs ls hP hD hS hl => lv_icmp_eq X.1.1 X.1.2.1 hd ht (fun _ => kk H locs ls hP hD hS hl) (fun h => absurd rfl h)
theorem g_leq {x : Int64} {off : Int} {tgt : Nat} (X : LX E p s m meth c b L xs) (hd : decode cL_law pc = .ok (.lcmp, 1)) (hd2 : decode cL_law (pc + 1) = .ok (.ifCond .eq off, 3)) (ht : ((pc + 1 : Nat) : Int) + off = (tgt : Int)) (kk : LV l E p e s m below meth c b kc ks tgt lv st ws) : LV l E p e s m below meth c b kc ks pc lv (.long x :: .long x :: st) ws := fun H locs ls hP hD hS hl => W.lcmp X.1.1 X.1.2.1 hd (lv_if_eq X.1.1 X.1.2.1 hd2 ht (fun _ => kk H locs ls hP hD hS hl) (fun h => absurd (by unfold lg_cmp; rw [if_neg (fun z => absurd z Int64.lt_irrefl), if_pos rfl]) h))
theorem g_bool {x : Int32} (X : LX E p s m meth c b L xs) (d0 : decode cL_law pc = .ok (.ifCond .eq 7, 3)) (d1 : decode cL_law (pc + 3) = .ok (.iconst 1, 1)) (d2 : decode cL_law (pc + 4) = .ok (.goto 4, 3)) (d3 : decode cL_law (pc + 7) = .ok (.iconst 0, 1)) (kk : LV l E p e s m below meth c b kc ks (pc + 8) lv (.int (if ¬ x = 0 then 1 else 0) :: st) ws) : LV l E p e s m below meth c b kc ks pc lv (.int x :: st) ws := fun H locs ls hP hD hS hl => by
  refine lv_if_eq (tgt := pc + 7) X.1.1 X.1.2.1 d0 (by omega) (fun h => ?_) (fun h => ?_)
  · have h2 := kk H locs ls hP hD hS hl
    rw [if_neg (fun z => z h)] at h2
    exact lv_iconst X.1.1 X.1.2.1 d3 (by decide) h2
  · have h2 := kk H locs ls hP hD hS hl
    rw [if_pos h] at h2
    exact lv_iconst X.1.1 X.1.2.1 d1 (by decide) (lv_goto (tgt := pc + 8) X.1.1 X.1.2.1 d2 (by omega) h2)
theorem cat_le (v : Option Value) : ((v.toList ++ ([] : List Value)).map fun v => v.category).sum ≤ 8 := by
  cases v with
  | none => decide
  | some v => cases v <;> exact Nat.le_of_ble_eq_true rfl
theorem g_cl {y : MethodName} {C : String} {index : Nat} {cc2 : ByteArray} {n2 : Nat} {ret2 : Option FieldType} {np : Nat} {As rest : List Value} {bb ci : Nat} {cr : vw_C} {K : Option Value → va_W → Prop} (X : LX E p s m meth c b L xs) (hcl : Cl l E y cc2 n2 ret2 ci bb As ws K) (lk : LkV RL index C y cc2 n2 ret2 np) (hd : decode cL_law pc = .ok (.invokevirtual index, 3)) (hst : st = As.reverse ++ .ref bb :: rest) (hnp : As.length = np) (hrest : (rest.map fun v => v.category).sum ≤ 8) (hc : kc ≤ 600000 ∧ ks ≤ 7302250) (hcr : vwCl[ci]? = some cr) (hcc : cr.1 = C) (kk : ∀ v w1, K v w1 → LV l E p e s m below meth c b kc ks (pc + 3) lv (v.toList ++ rest) w1) : LV l E p e s m below meth c b kc ks pc lv st ws := by
  obtain ⟨fr, lo, isC, wc, F2, q0, fs, hM, hR, hq, hnd, hC, hk⟩ := hcl
  intro H locs ls hP hD hS hl
  subst hst
  obtain ⟨hx, hb, hml, hret, hlocks, hown, hts, hK, hE, hnm⟩ := id X.1
  have hFc := va_free (wc := wc) hD hS (fun q h => Or.inr h) isC hC
  intro T hT XT
  obtain ⟨v, st₀, t, T', L', h0, X', hL, e1, e2, hqq, stp⟩ := (va_runV (As := As) (rest := rest) ⟨hx, hb, hml, hown, hts⟩ (hM H.size) (cwV np hts lk.1 rfl rfl rfl lk.2 (show fr + 1 ≤ room_1.frames ∧ 8 + (n2 + 11) + lo ≤ room_1.locals from hR)) ⟨vPre_blind, by subst hcc; exact va_recv hK hP hcr hq, fun U hU hW => ⟨rfl, v_pre hC hnd X.1 hP hD hS U hU hW⟩⟩ rfl hnp hl.1 rfl (lv_room hrest) hd (show kc + 0 ≤ room_1.cells ∧ ks + 0 ≤ room_1.slots from hc)) T hT XT
  obtain ⟨⟨v2, w1, hv, hf, hP1, hK1, hD1⟩, hz, hk1⟩ := hqq
  cases hv
  rw [h0] at hz hk1
  obtain ⟨hlen, hK2⟩ := hk _ _ hf
  obtain ⟨hP2, hD2⟩ := call_world hP hD isC hC hlen (H1 := T'.heap) (fun q h1 h2 => by rw [e1]; exact hk1 q h1 h2) hFc (by rw [e1]; exact hP1) hD1
  have hS2 : va_S (va_A [] s.heap.size) s.heap T'.heap (locs ++ L') := ⟨Nat.le_trans hS.1 (by rw [e1]; exact hz), fun q h1 h2 => by rw [e1, hk1 q (Nat.lt_of_lt_of_le h1 hS.1) (fun z => h2 (hFc q z))]; exact hS.2.1 q h1 h2, fun q hq => by
      rcases List.mem_append.mp hq with h | h
      · exact hS.2.2 q h
      · exact hFc _ (hL q h)⟩
  obtain ⟨t2, a1, b1⟩ := kk v _ hK2 T'.heap (locs ++ L') ls hP2 hD2 hS2 hl T' rfl X'
  exact ⟨t2, stp t2 a1, b1⟩
theorem g_new {C : String} {T : u_T} {N ci index : Nat} {ty : Nat → FieldType} {fs : List Value} (X : LX E p s m meth c b L xs) (hd : decode cL_law pc = .ok (.new index, 3)) (hin : ∀ w ∈ u_ws C T N, w ∈ gT) (hty : ∀ k, k < N → parseFieldDescriptor (T k).2.2.1 = some (ty k)) (hcl : Cond.classLink RL index C ∈ gT) (hinst : Cond.instantiable C N ∈ gT) (hini : Cond.initialized C ∈ gT) (hci : vwCl[ci]? = some (C, T, N)) (hfs : ∀ j, j < N → defaultValue (ty j) = vp_V fs j) (hc : kc + 1 ≤ 600000 ∧ ks + N ≤ 7302250) (kk : ∀ q : Nat, LV l E p e s m below meth c b (kc + 1) (ks + N) (pc + 3) lv (.ref q :: st) (ws ++ [(q, .inr (ci, fs))])) : LV l E p e s m below meth c b kc ks pc lv st ws := fun H locs ls hP hD hS hl => va_new X.1.1 X.1.2.1 X.1.2.2.2.2.2.2.1 hin ty hty X.1.2.2.2.2.2.1 (X.1.2.2.2.2.2.2.1 _ hcl) (X.1.2.2.2.2.2.2.1 _ hinst) (X.1.2.2.2.2.2.2.1 _ hini) X.1.2.2.2.2.2.2.2.1 hP hD hS (fun q h => Or.inr h) hci hfs hc.1 hc.2 hd (fun q H1 hP' hD' hS' => kk q H1 locs ls hP' hD' hS' hl)
theorem g_init {y : MethodName} {index : Nat} {cc2 : ByteArray} {n2 : Nat} {fr2 lo2 mc2 ms2 : Nat} {rest : List Value} {bb : Nat} {wc : va_W} {F2 : vF} (X : LX E p s m meth c b L xs) (isC : List Nat) (hg : Cond.code y cc2 n2 none ∈ gT) (hini : Cond.initialized y.cls ∈ gT) (hlk : Cond.methodLink RL index y ∈ gT) (hin : Cond.instanceMethod y ∈ gT) (hy : y.name = "<init>" ∧ y.cls ≠ "java/lang/invoke/MethodHandle" ∧ y.cls ≠ "java/lang/invoke/VarHandle" ∧ (parseMethodDescriptor y.desc).map (fun d => d.parameters.length) = some 0) (hM : Ct l E y cc2 n2 none fr2 lo2 mc2 ms2 [.ref bb] wc F2) (hd : decode cL_law pc = .ok (.invokespecial index, 3)) (hrest : (rest.map fun v => v.category).sum ≤ 8) (hR : (fr2 + 1 ≤ 12 ∧ 8 + (n2 + 11) + lo2 ≤ 434) ∧ (kc + mc2 ≤ 600000 ∧ ks + ms2 ≤ 7302250)) (hnd : va_nd isC = true) (hnb : ∀ i ∈ isC, i < ws.length) (hC : isC.map (fun i => ws[i]?) = wc.map some) (hlen : ∀ v w1, F2 v w1 → v = none ∧ isC.length ≤ w1.length) (kk : ∀ w1, F2 none w1 → LV l E p e s m below meth c b (kc + mc2) (ks + ms2) (pc + 3) lv rest (setA ws isC w1)) : LV l E p e s m below meth c b kc ks pc lv (.ref bb :: rest) ws := by
  intro H locs ls hP hD hS hl
  obtain ⟨hx, hb, hml, hret, hlocks, hown, hts, hK, hE, hnm⟩ := id X.1
  have hFc := va_free (wc := wc) hD hS (fun q h => Or.inr h) isC hC
  intro T hT XT
  obtain ⟨v, st₀, t, T', L', h0, X', hL, e1, e2, hq, stp⟩ := (va_runI (b := bb) (As := []) (rest := rest) ⟨hx, hb, hml, hown, hts⟩ (hM H.size) (cwI 0 hts (gC hg) rfl rfl rfl (hts _ hini) (hts _ hlk) (hts _ hin) hy.1 hy.2 (show fr2 + 1 ≤ room_1.frames ∧ 8 + (n2 + 11) + lo2 ≤ room_1.locals from hR.1)) ⟨vPre_blind, fun U hU hW => ⟨rfl, v_pre hC hnd X.1 hP hD hS U hU hW⟩⟩ rfl rfl hl.1 rfl (lv_room hrest) hd (show kc + mc2 ≤ room_1.cells ∧ ks + ms2 ≤ room_1.slots from hR.2)) T hT XT
  obtain ⟨⟨v2, w1, hv, hf, hP1, hK1, hD1⟩, hz, hk⟩ := hq
  cases hv
  rw [h0] at hz hk
  obtain ⟨rfl, hlen'⟩ := hlen _ _ hf
  obtain ⟨hP2, hD2⟩ := call_worldA hP hD isC hC hlen' hnb (H1 := T'.heap) (fun q h1 h2 => by rw [e1]; exact hk q h1 h2) hFc (by rw [e1]; exact hP1) hD1
  have hS2 : va_S (va_A [] s.heap.size) s.heap T'.heap (locs ++ L') := ⟨Nat.le_trans hS.1 (by rw [e1]; exact hz), fun q h1 h2 => by rw [e1, hk q (Nat.lt_of_lt_of_le h1 hS.1) (fun z => h2 (hFc q z))]; exact hS.2.1 q h1 h2, fun q hq => by
      rcases List.mem_append.mp hq with h | h
      · exact hS.2.2 q h
      · exact hFc _ (hL q h)⟩
  obtain ⟨t2, a1, b1⟩ := kk w1 hf T'.heap (locs ++ L') ls hP2 hD2 hS2 hl T' rfl X'
  exact ⟨t2, stp t2 a1, b1⟩
theorem g_ret (X : LX E p s m meth c b L xs) (d1 : decode cL_law pc = .ok (.iconst 1, 1)) (d2 : decode cL_law (pc + 1) = .ok (.ireturn, 1)) (hc : kc ≤ 600000 ∧ ks ≤ 7302250) : LV l E p e s m below meth c b kc ks pc lv [] ws := fun H locs ls hP hD hS hl => lv_iconst (v := 1) X.1.1 X.1.2.1 d1 (by decide) (va_forget (fun q hq => A_nil (hS.2.2 q hq)) (W.widen (k := 600000) (n := 7302250) hc.1 hc.2 (lw_ret X.1.1 X.1.2.1 X.1.2.2.2.1 X.1.2.2.2.2.1 d2)))
def swO : List Int := [188, 211, 234, 247, 260, 283, 316, 339, 388, 437, 486, 545, 604, 637, 660, 683, 706, 739, 762, 775, 788, 811, 834, 867, 890, 949, 982, 995, 1018, 1062, 1096, 1130, 1179, 1202, 1225, 1248, 1291, 1314, 1337, 1380, 1423, 1476, 1489]
def swT : List Nat := [220, 243, 266, 279, 292, 315, 348, 371, 420, 469, 518, 577, 636, 669, 692, 715, 738, 771, 794, 807, 820, 843, 866, 899, 922, 981, 1014, 1027, 1050, 1094, 1128, 1162, 1211, 1234, 1257, 1280, 1323, 1346, 1369, 1412, 1455, 1508, 1521]
theorem sw_in : ∀ k, k < 43 → (#[188, 211, 234, 247, 260, 283, 316, 339, 388, 437, 486, 545, 604, 637, 660, 683, 706, 739, 762, 775, 788, 811, 834, 867, 890, 949, 982, 995, 1018, 1062, 1096, 1130, 1179, 1202, 1225, 1248, 1291, 1314, 1337, 1380, 1423, 1476, 1489] : Array Int)[k]? = some (swO.getD k 0) ∧ ((32 : Nat) : Int) + swO.getD k 0 = ((swT.getD k 0 : Nat) : Int) := by decide +kernel
theorem g_sw {k : Nat} (X : LX E p s m meth c b L xs) (hk : k < 64) (k1 : k < 43 → LV l E p e s m below meth c b kc ks (swT.getD k 0) lv st ws) (k2 : LV l E p e s m below meth c b kc ks 1544 lv st ws) : LV l E p e s m below meth c b kc ks 32 lv (.int (nI k) :: st) ws := fun H locs ls hP hD hS hl => by
  have e : (nI k).toInt = (k : Int) := nI_toInt (by omega)
  by_cases h : k < 43
  · refine lv_tableIn (off := swO.getD k 0) (tgt := swT.getD k 0) X.1.1 X.1.2.1 dL_law_32 (by rw [e]; omega) (by rw [e]; omega) ?_ (sw_in k h).2 (k1 h H locs ls hP hD hS hl)
    rw [e, Int.sub_zero, Int.toNat_natCast]
    exact (sw_in k h).1
  · exact lv_tableOut X.1.1 X.1.2.1 dL_law_32 (Or.inr (by rw [e]; omega)) (tgt := 1544) (by decide) (k2 H locs ls hP hD hS hl)
theorem sub5 {L i : Nat} (hL : L ≤ 2560) (hi : i ≤ L) (h : ¬ nI L - 5 < nI i) : i + 5 ≤ L := by
  have e : (nI L - nI 5).toInt = (L : Int) - (5 : Nat) := pk_sub_toInt (by omega) (by omega)
  apply Decidable.byContradiction
  intro q
  refine h ?_
  show nI L - nI 5 < nI i
  rw [fa_lt, e, nI_toInt (by omega)]
  omega
theorem and63 (x : Int32) : ∃ k, k < 64 ∧ x &&& 63 = nI k := by
  refine ⟨(x &&& 63).toBitVec.toNat, ?_, ?_⟩
  · rw [Int32.toBitVec_and, BitVec.toNat_and]
    exact Nat.lt_of_le_of_lt Nat.and_le_right (by decide)
  · apply Int32.toBitVec_inj.mp
    show _ = (Int32.ofNat _).toBitVec
    simp
end LW
abbrev lvL (b : Nat) (ad : Nat → Nat) (i : Nat) : List (Nat × Value) := [(0, .ref b), (1, .ref (ad 0)), (2, .ref (ad 44)), (3, .int (nI i))]
abbrev LQ (l : Launch) (E : VE) (p : Program) (e : Env) (s : State) (m : MethodId) (below : List Frame) (meth : Method) (c : Code) (b : Nat) (ad : Nat → Nat) (i pc : Nat) (st : List Value) (ws : va_W) : Prop := LV l E p e s m below meth c b 55 1294 pc (lvL b ad i) st ws
theorem g_arg {l : Launch} {E : VE} {p : Program} {e : Env} {s : State} {m : MethodId} {below : List Frame} {meth : Method} {c : Code} {b L : Nat} {xs : Nat → Int32} {ad : Nat → Nat} {i k pc : Nat} {ik : Int} {st : List Value} {ws : va_W} (X : LX E p s m meth c b L xs) (hi : i + 5 ≤ L) (hL : L ≤ 2560) (hk : k < 5) (hv : Int32.ofInt ik = nI k) (d0 : decode cL_law pc = .ok (.aload_n 0, 1)) (d1 : decode cL_law (pc + 1) = .ok (.iload_n 3, 1)) (d2 : decode cL_law (pc + 2) = .ok (.iconst ik, 1)) (d3 : decode cL_law (pc + 3) = .ok (.iadd, 1)) (d4 : decode cL_law (pc + 4) = .ok (.iaload, 1)) (kk : LQ l E p e s m below meth c b ad i (pc + 5) (.int (xs (i + k)) :: st) ws) : LQ l E p e s m below meth c b ad i pc st ws := by
  refine g_al X 0 d0 rfl rfl ?_
  refine g_il X 3 d1 rfl rfl ?_
  refine g_ic X d2 hv ?_
  refine g_iadd X d3 ?_
  refine g_sld X d4 (by rw [nI_add]; exact vp_in_nI (by omega) (by omega)) ?_
  rw [nI_add, nI_clamp (by omega)]
  exact kk
