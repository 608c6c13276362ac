/-! making objects and arrays -/
theorem RA_uniq {U : State} {a b : ClassId} {ty : FieldType} (h1 : va_RA U a ty) (h2 : va_RA U b ty) : a = b := by
  cases ty with
  | object C =>
    obtain ⟨_, _, _, _, _, h⟩ := h1
    obtain ⟨_, _, _, _, _, h'⟩ := h2
    exact Option.some.inj (h.symm.trans h')
  | _ => exact Option.some.inj (Eq.trans (Eq.symm h1) h2)
theorem tyK {D : va_G} {cl : List vw_C} {tys : List (ClassId × FieldType)} {U : State} {a b : ClassId} {ty : FieldType} {k : Nat} (h : va_K D cl (tys ++ [(b, ty)]) U) (ht : tys[k]? = some (a, ty)) : b = a := by
  have hk : k < tys.length := (List.getElem?_eq_some_iff.mp ht).1
  have h1 := (h.2 k (a, ty) (by rw [List.getElem?_append_left hk]; exact ht)).2
  have h2 := (h.2 tys.length (b, ty) (by rw [List.getElem?_append_right (Nat.le_refl _)]; simp)).2
  exact RA_uniq h2 h1
def setA (ws : va_W) (is : List Nat) (w1 : va_W) : va_W := setP ws is (w1.take is.length) ++ w1.drop is.length
theorem setP_len : ∀ (is : List Nat) (w1 ws : va_W), (setP ws is w1).length = ws.length := by
  intro is
  induction is with
  | nil => intro w1 ws; cases w1 <;> rfl
  | cons i is ih =>
    intro w1 ws
    cases w1 with
    | nil => rfl
    | cons c cs => rw [setP, ih, List.length_set]
theorem setA_spec (is : List Nat) (w1 ws : va_W) (k : Nat) (q : Nat × va_E) (hl : is.length ≤ w1.length) (h : (setA ws is w1)[k]? = some q) : (∃ j : Nat, (is[j]? = some k ∨ (is.length ≤ j ∧ k = ws.length + (j - is.length))) ∧ w1[j]? = some q) ∨ (k ∉ is ∧ k < ws.length ∧ ws[k]? = some q) := by
  unfold setA at h
  by_cases hk : k < ws.length
  · rw [List.getElem?_append_left (by rw [setP_len]; exact hk)] at h
    rcases setP_spec is (w1.take is.length) ws k q (by rw [List.length_take]; omega) h with ⟨j, h1, h2⟩ | ⟨h1, h2⟩
    · refine Or.inl ⟨j, Or.inl h1, ?_⟩
      have hj : j < is.length := (List.getElem?_eq_some_iff.mp h1).1
      rwa [List.getElem?_take_of_lt hj] at h2
    · exact Or.inr ⟨h1, hk, h2⟩
  · rw [List.getElem?_append_right (by rw [setP_len]; omega), setP_len, List.getElem?_drop] at h
    exact Or.inl ⟨is.length + (k - ws.length), Or.inr ⟨by omega, by omega⟩, h⟩
theorem call_worldA {A0 : Nat → Prop} {D : va_G} {cl : List vw_C} {ws wc w1 : va_W} {H H1 : Heap} (hP : va_P D cl ws H) (hD : va_D A0 ws) (isC : List Nat) (hC : isC.map (fun i => ws[i]?) = wc.map some) (hl : isC.length ≤ w1.length) (hnb : ∀ i ∈ isC, i < ws.length)
    (hk : ∀ q : Nat, q < H.size → ¬ va_A wc H.size q → H1[q]? = H[q]?) (hF : ∀ q, va_A wc H.size q → A0 q) (hP1 : va_P D cl w1 H1) (hD1 : va_D (va_A wc H.size) w1) : va_P D cl (setA ws isC w1) H1 ∧ va_D A0 (setA ws isC w1) := by
  have at' : ∀ (j : Nat) (q : Nat × va_E), wc[j]? = some q → ∃ i : Nat, isC[j]? = some i ∧ ws[i]? = some q := by
    intro j q hj
    have h1 : (isC.map (fun i => ws[i]?))[j]? = (wc.map some)[j]? := by rw [hC]
    rw [List.getElem?_map, List.getElem?_map, hj] at h1
    cases hi : isC[j]? with
    | none => rw [hi] at h1; simp at h1
    | some i => rw [hi] at h1; exact ⟨i, rfl, by simpa using h1⟩
  have apart : ∀ (k : Nat) (q : Nat × va_E), k ∉ isC → ws[k]? = some q → q.1 < H.size ∧ ¬ va_A wc H.size q.1 := by
    intro k q hk1 hk2
    have hlt := (hP k q hk2).lt
    refine ⟨hlt, fun h => ?_⟩
    rcases h with ⟨j, e, h⟩ | h
    · obtain ⟨i, h3, h4⟩ := at' j (q.1, e) h
      have := hD.1 k i q (q.1, e) hk2 h4 rfl
      subst this
      exact hk1 (List.mem_of_getElem? h3)
    · omega
  refine ⟨fun k q hq => ?_, ⟨fun i j x y hx hy hxy => ?_, fun k q hq => ?_⟩⟩
  · rcases setA_spec isC w1 ws k q hl hq with ⟨j, h1, h2⟩ | ⟨h1, h0, h2⟩
    · exact hP1 j q h2
    · obtain ⟨g1, g2⟩ := apart k q h1 h2
      exact (hP k q h2).kept (hk q.1 g1 g2)
  · rcases setA_spec isC w1 ws i x hl hx with ⟨j1, h1, h2⟩ | ⟨h1, h0, h2⟩ <;> rcases setA_spec isC w1 ws j y hl hy with ⟨j2, h3, h4⟩ | ⟨h3, h5, h4⟩
    · have := hD1.1 j1 j2 x y h2 h4 hxy
      subst this
      rcases h1 with h1 | h1 <;> rcases h3 with h3 | h3
      · exact Option.some.inj (h1.symm.trans h3)
      · have := (List.getElem?_eq_some_iff.mp h1).1; omega
      · have := (List.getElem?_eq_some_iff.mp h3).1; omega
      · omega
    · exact absurd (by rw [← hxy]; exact hD1.2 j1 x h2) (apart j y h3 h4).2
    · exact absurd (by rw [hxy]; exact hD1.2 j2 y h4) (apart i x h1 h2).2
    · exact hD.1 i j x y h2 h4 hxy
  · rcases setA_spec isC w1 ws k q hl hq with ⟨j, h1, h2⟩ | ⟨h1, h0, h2⟩
    · exact hF _ (hD1.2 j q h2)
    · exact hD.2 k q h2
section VN
variable {l : Launch} {E : VE} {own : String} {cc : ByteArray} {n : Nat} {ret : Option FieldType} {nm : String} {R : Room} {ws0 : va_W} {mc ms : Nat} {F : vF} {kc ks pc : Nat} {lv : List (Nat × Value)} {st : List Value} {ws : va_W}
theorem v_newa {atype : ArrayType} {cA : ClassId} {a0 : vp_A} {z : Int32} {N : Nat} (t0 : Nat) (hd : decode cc pc = .ok (.newarray atype, 2)) (hw : Cond.arrayClass (newarray.typeOf atype) ∈ gT) (ht : (TYS E)[t0]? = some (cA, newarray.typeOf atype)) (ha : ∀ cA : ClassId, vp_cell cA a0 = arrV cA N (fun _ => defaultValue (newarray.typeOf atype))) (hz : ¬ z < 0) (hN : z.toNatClampNeg = N) (hb : N * componentBytes (newarray.typeOf atype) ≤ 536870912) (hc : kc + 1 ≤ R.cells ∧ ks + N ≤ R.slots) (k : ∀ q : Nat, V l E own cc n ret nm R ws0 mc ms F (kc + 1) (ks + N) (pc + 2) lv (.ref q :: st) (ws ++ [(q, .inl (cA, a0))])) : V l E own cc n ret nm R ws0 mc ms F kc ks pc lv (.int z :: st) ws := fun p e s m args below meth c X H locs ls hP hD hS hl => va_newa X.1 X.2.1 (X.2.2.2.2.2.2.1 _ hw) rfl X.2.2.2.2.2.2.2.1 hP hD hS (fun q h => Or.inr h) ha hz hN hb hc.1 hc.2 hd (fun q cA' H1 hK' hP' hD' hS' => by
  obtain rfl := tyK hK' ht
  exact k q p e s m args below meth c X H1 locs ls hP' hD' hS' hl)
theorem v_newq {C : String} {index : Nat} {cA : ClassId} {z : Int32} {N : Nat} (t0 : Nat) (hd : decode cc pc = .ok (.anewarray index, 3)) (hcl : Cond.classLink own index C ∈ gT) (hao : C = RX1 ∨ C = RX2) (ht : (TYS E)[t0]? = some (cA, .object C)) (hz : ¬ z < 0) (hN : z.toNatClampNeg = N) (hb : N * 4 ≤ 536870912) (hc : kc + 1 ≤ R.cells ∧ ks + N ≤ R.slots) (k : ∀ q : Nat, V l E own cc n ret nm R ws0 mc ms F (kc + 1) (ks + N) (pc + 3) lv (.ref q :: st) (ws ++ [(q, .inl (cA, N, .inr (.inr (.inr (.inr (fun _ => none))))))])) : V l E own cc n ret nm R ws0 mc ms F kc ks pc lv (.int z :: st) ws := fun p e s m args below meth c X H locs ls hP hD hS hl => va_newq X.1 X.2.1 X.2.2.2.2.2.1 (X.2.2.2.2.2.2.1 _ hcl) (by
  rcases hao with rfl | rfl
  · exact X.2.2.2.2.2.2.2.2.1.1.2.2.2.2.1
  · exact X.2.2.2.2.2.2.2.2.1.1.2.2.2.2.2.1) X.2.2.2.2.2.2.2.1 hP hD hS (fun q h => Or.inr h) hz hN hb hc.1 hc.2 hd (fun q cA' H1 hK' hP' hD' hS' => by
  obtain rfl := tyK hK' ht
  exact k q p e s m args below meth c X H1 locs ls hP' hD' hS' hl)
theorem v_new {C : String} {T : u_T} {N ci index : Nat} {ty : Nat → FieldType} {fs : List Value} (hd : decode cc pc = .ok (.new index, 3)) (hin : ∀ w ∈ u_ws C T N, w ∈ gT) (hty : ∀ k, k < N → parseFieldDescriptor (T k).2.2.1 = some (ty k)) (hcl : Cond.classLink own index C ∈ gT) (hinst : Cond.instantiable C N ∈ gT) (hini : Cond.initialized C ∈ gT) (hci : vwCl[ci]? = some (C, T, N)) (hfs : ∀ j, j < N → defaultValue (ty j) = vp_V fs j) (hc : kc + 1 ≤ R.cells ∧ ks + N ≤ R.slots) (k : ∀ q : Nat, V l E own cc n ret nm R ws0 mc ms F (kc + 1) (ks + N) (pc + 3) lv (.ref q :: st) (ws ++ [(q, .inr (ci, fs))])) : V l E own cc n ret nm R ws0 mc ms F kc ks pc lv st ws := fun p e s m args below meth c X H locs ls hP hD hS hl => va_new X.1 X.2.1 X.2.2.2.2.2.2.1 hin ty hty X.2.2.2.2.2.1 (X.2.2.2.2.2.2.1 _ hcl) (X.2.2.2.2.2.2.1 _ hinst) (X.2.2.2.2.2.2.1 _ hini) X.2.2.2.2.2.2.2.1 hP hD hS (fun q h => Or.inr h) hci hfs hc.1 hc.2 hd (fun q H1 hP' hD' hS' => k q p e s m args below meth c X H1 locs ls hP' hD' hS' hl)
theorem v_aast {cA : ClassId} {r : vw_C} {a N v ci : Nat} {vs : List Value} {f : Nat → Option Nat} {i : Int32} {j : Nat} {ws' : va_W} (q0 t0 qk : Nat) (hd : decode cc pc = .ok (.aastore, 1)) (ha : ws[q0]? = some (a, .inl (cA, N, .inr (.inr (.inr (.inr f)))))) (ht : (TYS E)[t0]? = some (cA, .object r.1)) (hv : ws[qk]? = some (v, .inr (ci, vs))) (hc : vwCl[ci]? = some r) (hi : vp_in i N) (hj : i.toNatClampNeg = j) (hw : ws.set q0 (a, .inl (cA, N, .inr (.inr (.inr (.inr (va_up f j (some v))))))) = ws') (k : V l E own cc n ret nm R ws0 mc ms F kc ks (pc + 1) lv st ws') : V l E own cc n ret nm R ws0 mc ms F kc ks pc lv (.ref v :: .int i :: .ref a :: st) ws := fun p e s m args below meth c X H locs ls hP hD hS hl => va_astq X.1 X.2.1 X.2.2.2.2.2.2.2.1 hP hD hS q0 t0 qk ci ha ht hv hc hi hd (fun H1 locs1 hP' hD' hS' => k p e s m args below meth c X H1 locs1 ls (hw ▸ hj ▸ hP') (hw ▸ hj ▸ hD') hS' hl)
theorem v_objI {index a : Nat} (hd : decode cc pc = .ok (.invokespecial index, 3)) (h1 : Cond.methodLink own index Lib.objectInit ∈ gT) (h2 : Cond.instanceMethod Lib.objectInit ∈ gT) (h3 : Cond.code Lib.objectInit ⟨#[0xb1]⟩ 1 none ∈ gT) (hR : 1 ≤ R.frames ∧ (st.map fun v => v.category).sum + 12 ≤ R.locals) (k : V l E own cc n ret nm R ws0 mc ms F kc ks (pc + 3) lv st ws) : V l E own cc n ret nm R ws0 mc ms F kc ks pc lv (.ref a :: st) ws := fun p e s m args below meth c X H locs ls hP hD hS hl => W.objInit X.1 X.2.1 X.2.2.2.2.2.1 (X.2.2.2.2.2.2.1 _ h1) (X.2.2.2.2.2.2.1 _ h2) (X.2.2.2.2.2.2.1 _ h3) rfl (by rw [X.2.2.1]; exact hl.1) rfl hd hR.1 (by have := hR.2; show 2 * 0 + _ + 12 ≤ _; omega) (k p e s m args below meth c X H locs ls hP hD hS hl)
theorem v_callI {y : MethodName} {index : Nat} {cc2 : ByteArray} {n2 : Nat} {fr2 lo2 mc2 ms2 : Nat} {rest : List Value} {b : Nat} {wc : va_W} {F2 : vF} (isC : List Nat) (hg : Cond.code y cc2 n2 none ∈ gT) (hini : Cond.initialized y.cls ∈ gT) (hlk : Cond.methodLink own index y ∈ gT) (hin : Cond.instanceMethod y ∈ gT) (hy : y.name = "<init>" ∧ y.cls ≠ "java/lang/invoke/MethodHandle" ∧ y.cls ≠ "java/lang/invoke/VarHandle" ∧ (parseMethodDescriptor y.desc).map (fun d => d.parameters.length) = some 0) (hM : Ct l E y cc2 n2 none fr2 lo2 mc2 ms2 [.ref b] wc F2) (hd : decode cc pc = .ok (.invokespecial index, 3)) (hrest : (rest.map fun v => v.category).sum ≤ 8) (hR : (fr2 + 1 ≤ R.frames ∧ 8 + (n2 + 11) + lo2 ≤ R.locals) ∧ (kc + mc2 ≤ R.cells ∧ ks + ms2 ≤ R.slots)) (hnd : va_nd isC = true) (hnb : ∀ i ∈ isC, i < ws.length) (hC : isC.map (fun i => ws[i]?) = wc.map some) (hlen : ∀ v w1, F2 v w1 → v = none ∧ isC.length ≤ w1.length) (kk : ∀ w1, F2 none w1 → V l E own cc n ret nm R ws0 mc ms F (kc + mc2) (ks + ms2) (pc + 3) lv rest (setA ws isC w1)) : V l E own cc n ret nm R ws0 mc ms F kc ks pc lv (.ref b :: rest) ws := by
  intro p e s m args below meth c X H locs ls hP hD hS hl
  obtain ⟨hx, hb, hml, hret, hlocks, hown, hts, hK, hE, hnm⟩ := id X
  have hFc := va_free (wc := wc) hD hS (fun q h => Or.inr h) isC hC
  intro T hT XT
  obtain ⟨v, st₀, t, T', L, h0, X', hL, e1, e2, hq, stp⟩ := (va_runI (b := b) (As := []) (rest := rest) ⟨hx, hb, hml, hown, hts⟩ (hM H.size) (cwI 0 hts (gC hg) rfl rfl rfl (hts _ hini) (hts _ hlk) (hts _ hin) hy.1 hy.2 hR.1) ⟨vPre_blind, fun U hU hW => ⟨rfl, v_pre hC hnd X hP hD hS U hU hW⟩⟩ rfl rfl hl.1 rfl (lv_room hrest) hd hR.2) T hT XT
  obtain ⟨⟨v2, w1, hv, hf, hP1, hK1, hD1⟩, hz, hk⟩ := hq
  cases hv
  rw [h0] at hz hk
  obtain ⟨rfl, hlen'⟩ := hlen _ _ hf
  obtain ⟨hP2, hD2⟩ := call_worldA hP hD isC hC hlen' hnb (H1 := T'.heap) (fun q h1 h2 => by rw [e1]; exact hk q h1 h2) hFc (by rw [e1]; exact hP1) hD1
  have hS2 : va_S (va_A ws0 s.heap.size) s.heap T'.heap (locs ++ L) := ⟨Nat.le_trans hS.1 (by rw [e1]; exact hz), fun q h1 h2 => by rw [e1, hk q (Nat.lt_of_lt_of_le h1 hS.1) (fun z => h2 (hFc q z))]; exact hS.2.1 q h1 h2, fun q hq => by
      rcases List.mem_append.mp hq with h | h
      · exact hS.2.2 q h
      · exact hFc _ (hL q h)⟩
  obtain ⟨t2, a1, b1⟩ := kk w1 hf p e s m args below meth c X T'.heap (locs ++ L) ls hP2 hD2 hS2 hl T' rfl X'
  exact ⟨t2, stp t2 a1, b1⟩
end VN

