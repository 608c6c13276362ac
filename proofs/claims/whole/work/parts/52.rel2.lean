/-! ===== images, sheets, texts: what the calls change ===== -/
theorem cpy_at {g h : Nat → Int32} {n k : Nat} (hk : k < n) : va_cpy g h 0 0 n k = g k := by
  unfold va_cpy
  rw [if_pos ⟨Nat.zero_le _, by omega⟩, Nat.sub_zero, Nat.zero_add]
theorem cpS_in {f : Nat → Int32} {a b n i : Nat} (h : i < n) : cpS f a b n (b + i) = f (a + i) := by
  unfold cpS
  rw [if_pos ⟨by omega, by omega⟩, Nat.add_sub_cancel_left]
theorem cpS_out {f : Nat → Int32} {a b n i : Nat} (h : ¬ (b ≤ i ∧ i < b + n)) : cpS f a b n i = f i := by
  unfold cpS
  rw [if_neg h]
section RE
variable {f on wr nd br wo on2 wr2 nd2 br2 wo2 : Nat → Int32} {nt pp rl : Nat} {hm sp td dt : Int32} {kp : Nat → Int32}
theorem RIm.cg2 {f' : Nat → Int32} {j : Nat} {kp' : Nat → Int32} {ntI ppI rlI : Int32} (h : RIm f j nt pp kp ntI ppI rlI hm sp td dt on wr nd br wo) (hf : ∀ i, i < 43 → f' (43 * (j + 1) + i) = f (43 * (j + 1) + i)) (hk : kp' j = kp j) : RIm f' j nt pp kp' ntI ppI rlI hm sp td dt on wr nd br wo := by
  refine ⟨h.1, fun q => ?_⟩
  obtain ⟨a, b, c⟩ := h.2 (by rw [← hk]; exact q)
  exact ⟨a, b, c.cg (fun i hi => hf i hi) (fun k hk => ⟨rfl, rfl, rfl, rfl⟩) (fun k hk => rfl)⟩
theorem RS.keep {j : Nat} {kp' : Nat → Int32} (h : RS f nt (nI rl) hm sp td dt on wr nd br wo) : RIm (cpS f 0 (43 * (j + 1)) 43) j nt pp kp' (nI nt) (nI pp) (nI rl) hm sp td dt (va_cpy on on2 0 0 8) (va_cpy wr wr2 0 0 8) (va_cpy nd nd2 0 0 8) (va_cpy br br2 0 0 8) (va_cpy wo wo2 0 0 6) :=
  ⟨⟨nt, pp, rl, rfl, rfl, rfl⟩, fun _ => ⟨rfl, rfl, h.cg (fun i hi => (cpS_in hi).trans (by rw [Nat.zero_add])) (fun k hk => ⟨cpy_at hk, cpy_at hk, cpy_at hk, cpy_at hk⟩) (fun k hk => cpy_at hk)⟩⟩
theorem RS.back {j : Nat} {rlI : Int32} (h : RS (fun i => f (43 * (j + 1) + i)) nt rlI hm sp td dt on wr nd br wo) : RS (cpS f (43 * (j + 1)) 0 43) nt rlI hm sp td dt (va_cpy on on2 0 0 8) (va_cpy wr wr2 0 0 8) (va_cpy nd nd2 0 0 8) (va_cpy br br2 0 0 8) (va_cpy wo wo2 0 0 6) :=
  h.cg (fun i hi => by
    have := cpS_in (f := f) (a := 43 * (j + 1)) (b := 0) (n := 43) hi
    rw [Nat.zero_add] at this
    exact this) (fun k hk => ⟨cpy_at hk, cpy_at hk, cpy_at hk, cpy_at hk⟩) (fun k hk => cpy_at hk)
theorem back_ans {j : Nat} {rlI : Int32} (h : RS (fun i => f (43 * (j + 1) + i)) nt rlI hm sp td dt on wr nd br wo) : cpS f (43 * (j + 1)) 0 43 41 = td := by
  obtain ⟨rl, w, h1, h2, h3, h4, h5, h6, h7⟩ := h
  have := cpS_in (f := f) (a := 43 * (j + 1)) (b := 0) (n := 43) (i := 41) (by decide)
  rw [Nat.zero_add] at this
  rw [this]; exact h6
end RE
theorem RC.kp {tf fa tnC tnM : Int32} {kp kpM cf lf kp' : Nat → Int32} (h : RC tf fa tnC tnM kp kpM cf lf) : RC tf fa tnC tnM kp' kp' cf lf := ⟨h.1, h.2.1, rfl, h.2.2.2.1, h.2.2.2.2⟩
theorem RC.tn {tf fa tnC tnM a b : Int32} {kp kpM cf lf : Nat → Int32} (h : RC tf fa tnC tnM kp kpM cf lf) (e : b = a) : RC tf fa a b kp kpM cf lf := ⟨h.1, e, h.2.2.1, h.2.2.2.1, h.2.2.2.2⟩
theorem RC.tx {tf fa tnC tnM a b : Int32} {kp kpM cf lf kp' : Nat → Int32} (h : RC tf fa tnC tnM kp kpM cf lf) (e : b = a) : RC a b tnC tnM kp' kp' cf lf := ⟨e, h.2.1, rfl, h.2.2.2.1, h.2.2.2.2⟩
theorem RC.tb {tf fa tnC tnM a b : Int32} {kp kpM cf lf : Nat → Int32} (h : RC tf fa tnC tnM kp kpM cf lf) (e : b = a) : RC a b tnC tnM kp kpM cf lf := ⟨e, h.2.1, h.2.2.1, h.2.2.2.1, h.2.2.2.2⟩
theorem laC_in {x : Int32} (h : ¬ x < 0) : laC x = x := by
  unfold laC
  exact if_neg (fun q => h (by rw [q]; decide))
theorem RR.sheet {j sz : Nat} {la x n : Int32} {rf lg lh cq : Nat → Int32} (h : RR j la (nI sz) rf lg lh cq) : RR j (if ¬ x < 0 ∧ ¬ 3 ≤ x then (if n ≤ 40 then (if 0 ≤ n then x else la) else la) else la) (if ¬ x < 0 ∧ ¬ 3 ≤ x then (if n ≤ 40 then (if 0 ≤ n then n else nI sz) else nI sz) else nI sz) (if ¬ x < 0 ∧ ¬ 3 ≤ x then (if n ≤ 40 then (if 0 ≤ n then fillI rf 0 40 else rf) else rf) else rf) (if ¬ x < 0 ∧ ¬ 2 < x then (if n ≤ 40 then (if 0 ≤ n then upd lg j x else lg) else lg) else lg) (if ¬ x < 0 ∧ ¬ 2 < x then (if n ≤ 40 then (if 0 ≤ n then upd lh j n else lh) else lh) else lh) (if ¬ x < 0 ∧ ¬ 2 < x then (if n ≤ 40 then (if 0 ≤ n then flS cq (40 * j) 40 else cq) else cq) else cq) := by
  by_cases c : ¬ x < 0 ∧ ¬ 2 < x
  · rw [if_pos (ge3.mpr c), if_pos (ge3.mpr c), if_pos (ge3.mpr c), if_pos c, if_pos c, if_pos c]
    by_cases c2 : n ≤ 40
    · rw [if_pos c2, if_pos c2, if_pos c2, if_pos c2, if_pos c2, if_pos c2]
      by_cases c3 : 0 ≤ n
      · rw [if_pos c3, if_pos c3, if_pos c3, if_pos c3, if_pos c3, if_pos c3]
        obtain ⟨m, hm, rfl⟩ := le_ex (b := 40) (Int32.not_lt.mpr c3) (Int32.not_lt.mpr c2) (by decide)
        refine ⟨m, rfl, hm, pk_us, ?_, ?_, fun p hp => ?_⟩
        · rw [pk_us, laC_in c.1]
        · rw [pk_us]; exact Or.inr c
        · unfold fillI flS
          rw [if_pos hp, if_pos ⟨by omega, by omega⟩]
      · rw [if_neg c3, if_neg c3, if_neg c3, if_neg c3, if_neg c3, if_neg c3]; exact h
    · rw [if_neg c2, if_neg c2, if_neg c2, if_neg c2, if_neg c2, if_neg c2]; exact h
  · rw [if_neg (fun q => c (ge3.mp q)), if_neg (fun q => c (ge3.mp q)), if_neg (fun q => c (ge3.mp q)), if_neg c, if_neg c, if_neg c]; exact h
theorem RR.sheetO {i j : Nat} {la z x n : Int32} {rf lg lh cq : Nat → Int32} (hij : i ≠ j) (h : RR i la z rf lg lh cq) : RR i la z rf (if ¬ x < 0 ∧ ¬ 2 < x then (if n ≤ 40 then (if 0 ≤ n then upd lg j x else lg) else lg) else lg) (if ¬ x < 0 ∧ ¬ 2 < x then (if n ≤ 40 then (if 0 ≤ n then upd lh j n else lh) else lh) else lh) (if ¬ x < 0 ∧ ¬ 2 < x then (if n ≤ 40 then (if 0 ≤ n then flS cq (40 * j) 40 else cq) else cq) else cq) := by
  refine h.cg ?_ ?_ (fun p hp => ?_)
  · repeat' split
    all_goals first | rfl | exact pk_un hij
  · repeat' split
    all_goals first | rfl | exact pk_un hij
  · repeat' split
    all_goals first | rfl | (unfold flS; exact if_neg (by omega))
theorem sheet_ans {x n : Int32} : (if ¬ x < 0 ∧ ¬ 2 < x then (if n ≤ 40 then (if 0 ≤ n then (1 : Int32) else -14) else -1) else -1) = if ¬ x < 0 ∧ ¬ 3 ≤ x then (if n ≤ 40 then (if 0 ≤ n then 1 else -14) else -1) else -1 := by
  by_cases c : ¬ x < 0 ∧ ¬ 2 < x
  · rw [if_pos c, if_pos (ge3.mpr c)]
  · rw [if_neg c, if_neg (fun q => c (ge3.mp q))]
theorem la_iff {l : Int32} (h : l = -4 ∨ (¬ l < 0 ∧ ¬ 2 < l)) : laC l = -1 ↔ l = -4 := by
  unfold laC
  by_cases c : l = -4
  · rw [if_pos c]; exact ⟨fun _ => c, fun _ => rfl⟩
  · rw [if_neg c]
    rcases h with h | h
    · exact absurd h c
    · exact ⟨fun q => absurd (by rw [q]; decide) h.1, fun q => absurd q c⟩
theorem flt_self {l i : Int32} {sz : Nat} (h : l = -4 ∨ (¬ l < 0 ∧ ¬ 2 < l)) : fltA (laC l) (nI sz) (laC l) i = if l = -4 then 1 else if okN i sz then 0 else 2 := by
  unfold fltA
  by_cases c : l = -4
  · rw [if_pos ((la_iff h).mpr c), if_pos c]
  · rw [if_neg (fun q => c ((la_iff h).mp q)), if_neg c, if_pos rfl]
    by_cases c1 : i < 0
    · rw [if_pos c1, if_neg (fun q => q.1 c1)]
    · rw [if_neg c1]
      by_cases c2 : i < nI sz
      · rw [if_pos c2, if_pos ⟨c1, Int32.not_le.mpr c2⟩]
      · rw [if_neg c2, if_neg (fun q => c2 (Int32.not_le.mp q.2))]
theorem lay_ans {l i : Int32} {sz : Nat} (h : l = -4 ∨ (¬ l < 0 ∧ ¬ 2 < l)) : (if l = -4 then (-11 : Int32) else if okN i sz then 1 else -12) = if fltA (laC l) (nI sz) (laC l) i = 0 then 1 else -10 - fltA (laC l) (nI sz) (laC l) i := by
  rw [flt_self h]
  by_cases c : l = -4
  · rw [if_pos c, if_pos c, if_neg (by decide)]; decide
  · rw [if_neg c, if_neg c]
    by_cases c2 : okN i sz
    · rw [if_pos c2, if_pos c2, if_pos rfl]
    · rw [if_neg c2, if_neg c2, if_neg (by decide)]; decide
theorem RR.lay {j sz : Nat} {la i v : Int32} {rf lg lh cq : Nat → Int32} (h : RR j la (nI sz) rf lg lh cq) (hsz : sz ≤ 40) (ela : la = laC (lg j)) (hlg : lg j = -4 ∨ (¬ lg j < 0 ∧ ¬ 2 < lg j)) : RR j la (nI sz) (if fltA la (nI sz) la i = 0 then (if okN i sz then upd rf i.toNatClampNeg (putV la v) else rf) else rf) lg lh (if lg j = -4 then cq else if okN i sz then upd cq (40 * j + i.toNatClampNeg) (layV (lg j) v) else cq) := by
  rw [ela, flt_self hlg, ← ela]
  by_cases c : lg j = -4
  · rw [if_pos c, if_pos c, if_neg (by decide)]; exact h
  · rw [if_neg c, if_neg c]
    by_cases c2 : okN i sz
    · rw [if_pos c2, if_pos c2, if_pos c2, if_pos rfl]
      obtain ⟨m, hm, rfl⟩ := okN_ex c2 (by omega)
      rw [nI_clamp (by omega)]
      obtain ⟨sz', a1, a2, a3, a4, a5, a6⟩ := h
      refine ⟨sz', a1, a2, a3, a4, a5, fun p hp => ?_⟩
      by_cases e : p = m
      · subst e; rw [pk_us, pk_us, ela, put_lay hlg c]
      · rw [pk_un e, pk_un (by omega)]; exact a6 p hp
    · rw [if_neg c2, if_neg c2, if_neg c2, if_neg (by decide)]; exact h
theorem RR.layO {i j sz : Nat} {la z k v : Int32} {rf lg lh cq : Nat → Int32} (hij : i ≠ j) (hsz : sz ≤ 40) (h : RR i la z rf lg lh cq) : RR i la z rf lg lh (if lg j = -4 then cq else if okN k sz then upd cq (40 * j + k.toNatClampNeg) (layV (lg j) v) else cq) := by
  refine h.cg rfl rfl (fun p hp => ?_)
  by_cases c : lg j = -4
  · rw [if_pos c]
  · rw [if_neg c]
    by_cases c2 : okN k sz
    · rw [if_pos c2]
      obtain ⟨m, hm, rfl⟩ := okN_ex c2 (by omega)
      rw [nI_clamp (by omega)]
      exact pk_un (by omega)
    · rw [if_neg c2]
theorem read_eq {f lg cq rf : Nat → Int32} {j sz nt m : Nat} {sp td la x fs : Int32} (h40 : f 40 = sp) (h41 : f 41 = td) (hsz : sz ≤ 40) (ela : la = laC (lg j)) (hrf : ∀ p, p < 40 → rf p = cq (40 * j + p)) : rdF (laC (lg j)) sz (fun p => cq (40 * j + p)) nt (f 40) x fs m 0 (f 41) = rdF la sz rf nt sp x fs m 0 td := by
  rw [h40, h41, ← ela]
  exact (rdF_c hsz hrf m 0 td).symm
def tdR (td : Int32) : Option (Int32 × Int32) → Int32
  | none => td
  | some q => q.1
theorem tdR_W {td : Int32} (hTd : Wd 64 td) : ∀ R : Option (Int32 × Int32), (∀ q, R = some q → Wd 64 q.1) → Wd 64 (tdR td R)
  | none, _ => hTd
  | some q, h => h q rfl
theorem RS.read {f g on wr nd br wo : Nat → Int32} {nt rl : Nat} {hm sp td dt : Int32} {R : Option (Int32 × Int32)} (h : RS f nt (nI rl) hm sp td dt on wr nd br wo) (hg : ∀ p, p < 129 → p ≠ 41 → g p = f p) (e41 : g 41 = tdR (f 41) R) (hW : ∀ q, R = some q → Wd 64 q.1) : RS g nt (nI rl) hm sp (tdR td R) dt on wr nd br wo := by
  obtain ⟨-, -, -, -, -, h39, h40, h41, h42, hTd, -⟩ := id h
  exact h.sc (fun j hj => hg j (by omega) (by omega)) (by rw [hg 39 (by decide) (by decide)]; exact h39) (by rw [hg 40 (by decide) (by decide)]; exact h40) (by rw [e41, h41]) (by rw [hg 42 (by decide) (by decide)]; exact h42) (tdR_W hTd R hW)
theorem RT.text {tl tl' nx sa a3 b3 c3 sqn hen tx_ ts_ kn_ kp_ rl_ sp_ he_ : Nat} {by_ byM : Nat → Int32} (h : RT (nI tl) (nI tl') (nI nx) (nI sa) (nI a3) (nI b3) (nI c3) (nI sqn) (nI hen) by_ byM) : RT 0 0 (nI tx_) (nI ts_) (nI kn_) (nI kp_) (nI rl_) (nI sp_) (nI he_) by_ byM := by
  obtain ⟨_, _, _, _, _, _, _, _, -, -, -, -, -, -, -, -, -, -, e1, e2⟩ := h
  exact ⟨0, tx_, ts_, kn_, kp_, rl_, sp_, he_, rfl, rfl, by decide, rfl, rfl, rfl, rfl, rfl, rfl, rfl, e1, e2⟩
theorem RZ.text {nt nt' : Nat} {a b : Int32} {sn sh sq : Nat → Int32} (_ : RZ nt a b sn sh sq) : RZ nt' 0 0 sn sh sq := ⟨0, fun _ => 0, rfl, rfl, by decide, fun j hj => absurd hj (by omega)⟩
theorem RS.text {S : PS} {f f' pg on wr nd br wo on_ wr_ nd_ br_ wo_ : Nat → Int32} {th_ tN_ tO_ tpd_ hm_ sp_ td_ : Int32} {rl_ kn_ kp_ : Nat} (e : PS.mk th_ tN_ tO_ tpd_ hm_ sp_ td_ rl_ kn_ kp_ on_ wr_ nd_ br_ wo_ = S) (hg : GS S) (hpg : PG S pg) (hf : ∀ j, f' j = if j < 43 then pg j else f j) (hw : ∀ k, k < S.rl → ∃ w, S.wr k = nI w ∧ w < S.kn) : RS f' kn_ (nI rl_) hm_ sp_ td_ 0 (va_cpy on_ on 0 0 8) (va_cpy wr_ wr 0 0 8) (va_cpy nd_ nd 0 0 8) (va_cpy br_ br 0 0 8) (va_cpy wo_ wo 0 0 6) := by
  subst e
  obtain ⟨-, -, -, -, -, g6, g7, -, g9, g10⟩ := hg
  obtain ⟨p1, p2, p3, p4, p5, p6, p7⟩ := hpg
  have hlt : ∀ j, j < 43 → f' j = pg j := fun j hj => by rw [hf j, if_pos hj]
  have hex : ∃ w : Nat → Nat, ∀ k, k < rl_ → wr_ k = nI (w k) ∧ w k < kn_ := by
    refine ⟨fun k => (wr_ k).toNatClampNeg, fun k hk => ?_⟩
    obtain ⟨w, e1, e2⟩ := hw k hk
    have e1' : wr_ k = nI w := e1
    obtain ⟨w', hw', e3⟩ := (g9 k hk).2.1
    have e3' : wr_ k = nI w' := e3
    have hc : (wr_ k).toNatClampNeg = w' := by rw [e3', nI_clamp (by omega)]
    have e2' : w < kn_ := e2
    dsimp only
    rw [hc]
    refine ⟨e3', ?_⟩
    by_cases q : w < 2 ^ 31
    · have := (nI_inj q (by omega)).mp (e1'.symm.trans e3')
      omega
    · omega
  obtain ⟨w, hw2⟩ := hex
  have hr8 : rl_ ≤ 8 := g7
  refine ⟨rl_, w, rfl, hr8, by rw [hlt 38 (by decide)]; exact p1, by rw [hlt 39 (by decide)]; exact p2, by rw [hlt 40 (by decide)]; exact p3, by rw [hlt 41 (by decide)]; exact p4, by rw [hlt 42 (by decide)]; exact p5, g6, fun k hk => ?_, fun k hk => ?_, fun k hk => ?_⟩
  · rw [hlt k (by omega), cpy_at hk]
    exact ⟨p6 k hk, g10 k hk⟩
  · rw [hlt _ (by omega), hlt _ (by omega), hlt _ (by omega), hlt _ (by omega), cpy_at (show k < 8 by omega), cpy_at (show k < 8 by omega), cpy_at (show k < 8 by omega)]
    exact ⟨(p7 k hk).1, (p7 k hk).2.1.trans (hw2 k hk).1, (p7 k hk).2.2.1, (p7 k hk).2.2.2, (hw2 k hk).2, (g9 k hk).2.2.1, (g9 k hk).2.2.2⟩
  · rw [cpy_at (show k < 8 by omega)]; exact (hw2 k hk).1
theorem RN.text {S : PS} {nt pp : Nat} {th_ tN_ tO_ tpd_ hm_ sp_ td_ rn_ ro_ a b c d : Int32} {rl_ kn_ kp_ : Nat} {on_ wr_ nd_ br_ wo_ : Nat → Int32} (_ : RN nt pp a b c d) (e : PS.mk th_ tN_ tO_ tpd_ hm_ sp_ td_ rl_ kn_ kp_ on_ wr_ nd_ br_ wo_ = S) (hg : GS S) (h1 : rn_ = nI S.kn) (h2 : ro_ = nI S.kp) : RN kn_ kp_ (nI kn_) rn_ (nI kp_) ro_ := by
  subst e
  obtain ⟨-, -, -, -, -, -, -, g8, -⟩ := hg
  exact ⟨rfl, h1, rfl, h2, g8.1, g8.2.1, g8.2.2.1, g8.2.2.2⟩
theorem round_M {f on wr nd br : Nat → Int32} {nt rl x t g : Nat} {hm sp : Int32} {w : Nat → Nat} (hnt : nt ≤ 6) (hrl : rl ≤ 8) (hR : RU f nt rl on nd br w) (hw : ∀ k, k < rl → wr k = nI (w k)) (h39 : f 39 = hm) (h40 : f 40 = sp) (hx : x < 2 ^ nt) (hr : rndQ (outN rl hm sp on wr nd br) x t g) : t ≤ 64 ∧ caM (outM rl 255 f) (itr (outM rl 255 f) t (nI x)) (2 ^ nt) = nI (g - t) ∧ (∀ i, i < t → caM (outM rl 255 f) (itr (outM rl 255 f) i (nI x)) (2 ^ nt) = -4) := by
  have h := fun a : Nat => outN_ok (on := on) (nd := nd) (br := br) (hm := hm) (sp := sp) (b := nt) (by omega) (fun k hk => ⟨hw k hk, (hR k hk).2.2.2.2.1⟩) a
  exact rnd_M (fun a => by rw [← out_M hrl hR hw h39 h40]; exact (h a).1) (p64 hnt) hx (fun a => (h a).2) hr
