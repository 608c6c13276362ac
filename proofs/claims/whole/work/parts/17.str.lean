section VS
variable {l : Launch} {E : VE} {own : String} {cc : ByteArray} {n : Nat} {ret : Option FieldType} {nm : String} {R : Room} {ws0 : va_W} {mc ms : Nat} {F : vF} {kc ks pc : Nat} {lv : List (Nat × Value)} {st : List Value} {ws : va_W}
theorem v_ldcS {index : Nat} (i : Nat) (hi : i < 8) (ho : own = RX3) (hx : idxS.getD i 0 = index) (hd : decode cc pc = .ok (.ldc index, 2)) (k : V l E own cc n ret nm R ws0 mc ms F kc ks (pc + 2) lv (.ref (E.2.2.2.1 i) :: st) ws) : V l E own cc n ret nm R ws0 mc ms F kc ks pc lv st ws := by
  subst ho hx
  exact fun p e s m args below meth c X H locs ls hP hD hS hl => va_ldcS X.1 X.2.1 X.2.2.2.2.2.1 (X.2.2.2.2.2.2.2.2.1.1.2.2.2.2.2.2 i hi) hd (k p e s m args below meth c X H locs ls hP hD hS hl)
theorem v_sval (i : Nat) (hi : i < 8) (ho : own = RJ0) (hd : decode cc pc = .ok (.getfield 9, 3)) (k : V l E own cc n ret nm R ws0 mc ms F kc ks (pc + 3) lv (.ref (E.2.2.2.2 i) :: st) ws) : V l E own cc n ret nm R ws0 mc ms F kc ks pc lv (.ref (E.2.2.2.1 i) :: st) ws := by
  subst ho
  exact fun p e s m args below meth c X H locs ls hP hD hS hl => vk_getf X.1 X.2.1 (X.2.2.2.2.2.2.2.2.1.2.2.2.2.1.1 i hi).2.2.1 hS X.2.2.2.2.2.1 (X.2.2.2.2.2.2.1 _ tb_1208) (fun _ h => h) hd (k p e s m args below meth c X H locs ls hP hD hS hl)
theorem v_scod (i : Nat) (hi : i < 8) (ho : own = RJ0) (hd : decode cc pc = .ok (.getfield 15, 3)) (k : V l E own cc n ret nm R ws0 mc ms F kc ks (pc + 3) lv (.int 0 :: st) ws) : V l E own cc n ret nm R ws0 mc ms F kc ks pc lv (.ref (E.2.2.2.1 i) :: st) ws := by
  subst ho
  exact fun p e s m args below meth c X H locs ls hP hD hS hl => vk_getf X.1 X.2.1 (X.2.2.2.2.2.2.2.2.1.2.2.2.2.1.1 i hi).2.1 hS X.2.2.2.2.2.1 (X.2.2.2.2.2.2.1 _ tb_1209) (fun _ h => h) hd (k p e s m args below meth c X H locs ls hP hD hS hl)
theorem v_slen (i : Nat) (hi : i < 8) (hd : decode cc pc = .ok (.arraylength, 1)) (k : V l E own cc n ret nm R ws0 mc ms F kc ks (pc + 1) lv (.int (nI (lenS.getD i 0)) :: st) ws) : V l E own cc n ret nm R ws0 mc ms F kc ks pc lv (.ref (E.2.2.2.2 i) :: st) ws := fun p e s m args below meth c X H locs ls hP hD hS hl => va_tlen X.1 X.2.1 (X.2.2.2.2.2.2.2.2.1.2.2.2.2.1.1 i hi).2.2.2 hS rfl hd (k p e s m args below meth c X H locs ls hP hD hS hl)
theorem v_sbld {x : Int32} (i j : Nat) (hi : i < 8) (hx : x = nI j) (hj : j < lenS.getD i 0) (hd : decode cc pc = .ok (.baload, 1)) (k : V l E own cc n ret nm R ws0 mc ms F kc ks (pc + 1) lv (.int ((bytS.getD i []).getD j 0) :: st) ws) : V l E own cc n ret nm R ws0 mc ms F kc ks pc lv (.int x :: .ref (E.2.2.2.2 i) :: st) ws := by
  have hl8 : lenS.getD i 0 ≤ 6 := (show ∀ i : Nat, i < 8 → lenS.getD i 0 ≤ 6 by decide) i hi
  subst hx
  exact fun p e s m args below meth c X H locs ls hP hD hS hl => va_tb X.1 X.2.1 (X.2.2.2.2.2.2.2.2.1.2.2.2.2.1.1 i hi).2.2.2 hS (vp_in_nI hj (by omega)) (by rw [nI_clamp (by omega)]) hd (k p e s m args below meth c X H locs ls hP hD hS hl)
theorem v_gsCS (ho : own = RJ0) (hd : decode cc pc = .ok (.getstatic 38, 3)) (k : V l E own cc n ret nm R ws0 mc ms F kc ks (pc + 3) lv (.int 1 :: st) ws) : V l E own cc n ret nm R ws0 mc ms F kc ks pc lv st ws := by
  subst ho
  exact fun p e s m args below meth c X H locs ls hP hD hS hl => va_gets X.1 X.2.1 X.2.2.2.2.2.2.2.2.1.2.2.2.1 hS X.2.2.2.2.2.1 (X.2.2.2.2.2.2.1 _ tb_332) (fun _ h => h) hd (k p e s m args below meth c X H locs ls hP hD hS hl)
theorem v_gsSF (ho : own = RJ0) (hd : decode cc pc = .ok (.getstatic 1053, 3)) (kn : V l E own cc n ret nm R ws0 mc ms F kc ks (pc + 3) lv (.null :: st) ws) (kr : ∀ t : Nat, V l E own cc n ret nm R ws0 mc ms F kc ks (pc + 3) lv (.ref t :: st) ws) : V l E own cc n ret nm R ws0 mc ms F kc ks pc lv st ws := by
  subst ho
  intro p e s m args below meth c X H locs ls hP hD hS hl
  rcases X.2.2.2.2.2.2.2.2.1.2.2.2.2.2 with h | ⟨t, h⟩
  · exact va_gets X.1 X.2.1 h hS X.2.2.2.2.2.1 (X.2.2.2.2.2.2.1 _ tb_348) (fun _ h => h) hd (kn p e s m args below meth c X H locs ls hP hD hS hl)
  · exact va_gets X.1 X.2.1 h hS X.2.2.2.2.2.1 (X.2.2.2.2.2.2.1 _ tb_348) (fun _ h => h) hd (kr t p e s m args below meth c X H locs ls hP hD hS hl)
theorem v_callVS {y : MethodName} {index : Nat} {cc2 : ByteArray} {n2 : Nat} {ret2 : Option FieldType} {fr2 lo2 np : Nat} {As rest : List Value} {F2 : vF} (i : Nat) (hi : i < 8) (lk : LkV own index RJ0 y cc2 n2 ret2 np) (hM : Ct l E y cc2 n2 ret2 fr2 lo2 0 0 (.ref (E.2.2.2.1 i) :: As) [] F2) (hd : decode cc pc = .ok (.invokevirtual index, 3)) (hst : st = As.reverse ++ .ref (E.2.2.2.1 i) :: rest) (hnp : As.length = np) (hrest : (rest.map fun v => v.category).sum ≤ 8) (hR : (fr2 + 1 ≤ R.frames ∧ 8 + (n2 + 11) + lo2 ≤ R.locals) ∧ (kc ≤ R.cells ∧ ks ≤ R.slots)) (hlen : ∀ v w1, F2 v w1 → w1.length = ([] : List Nat).length) (kk : ∀ v w1, F2 v w1 → V l E own cc n ret nm R ws0 mc ms F (kc + 0) (ks + 0) (pc + 3) lv (v.toList ++ rest) (setP ws [] w1)) : V l E own cc n ret nm R ws0 mc ms F kc ks pc lv st ws := by
  intro p e s m args below meth c X H locs ls hP hD hS hl
  subst hst
  obtain ⟨hx, hb, hml, hret, hlocks, hown, hts, hK, hE, hnm⟩ := id X
  exact v_back (isC := []) (wc := []) hlen rfl kk X hP hD hS hl (fun a b t h => h) (va_runV (As := As) (rest := rest) ⟨hx, hb, hml, hown, hts⟩ (hM H.size) (cwV np hts lk.1 rfl rfl rfl lk.2 hR.1) ⟨vPre_blind, vk_recv hE.2.2.2.2.1 hi hS, fun U hU hW => ⟨rfl, v_pre (isC := []) rfl (by decide) X hP hD hS U hU hW⟩⟩ rfl hnp hl.1 rfl (lv_room hrest) hd hR.2)
end VS
theorem chS_all : ∀ i : Nat, i < 8 → ∀ k : Nat, k < lenS.getD i 0 → ((((bytS.getD i []).getD k 0 &&& 255).toUInt32 % 65536).toInt32 = (bytS.getD i []).getD k 0 ∧ narrow .char (.int ((bytS.getD i []).getD k 0)) = .int ((bytS.getD i []).getD k 0)) := by decide +kernel
theorem lenS6 : ∀ i : Nat, i < 8 → lenS.getD i 0 ≤ 6 := by decide
