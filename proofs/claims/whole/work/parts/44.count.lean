/-! ===== bitCount of a long: byte by byte ===== -/
theorem cntM_split (p : Nat → Bool) (m : Nat) : ∀ n, cntM p (m + n) = cntM p m + cntM (fun k => p (m + k)) n
  | 0 => rfl
  | n + 1 => by
    have h := cntM_split p m n
    show cntM p (m + n) + (if p (m + n) = true then 1 else 0) = _
    rw [h]
    simp only [cntM]
    omega
theorem and8 {a m : Nat} (ha : a < 256) (hm : m < 256) (b M : Nat) : (a + 256 * b) &&& (m + 256 * M) = (a &&& m) + 256 * (b &&& M) := by
  apply Nat.eq_of_testBit_eq
  intro i
  have e : ∀ x y : Nat, x + 256 * y = 2 ^ 8 * y + x := fun x y => by omega
  have hl : a &&& m < 2 ^ 8 := Nat.lt_of_le_of_lt Nat.and_le_left (by omega)
  rw [Nat.testBit_and, e, e, e, Nat.testBit_two_pow_mul_add b (by omega), Nat.testBit_two_pow_mul_add M (by omega), Nat.testBit_two_pow_mul_add (b &&& M) hl]
  by_cases h : i < 8
  · rw [if_pos h, if_pos h, if_pos h, Nat.testBit_and]
  · rw [if_neg h, if_neg h, if_neg h, Nat.testBit_and]
def valB : List Nat → Nat
  | [] => 0
  | c :: cs => c + 256 * valB cs
def mvB (m : Nat) : Nat → Nat
  | 0 => 0
  | n + 1 => m + 256 * mvB m n
def pq1 (c : Nat) : Nat := c - ((c / 2) &&& 85)
def pq2 (c : Nat) : Nat := (c &&& 51) + ((c / 4) &&& 51)
def pq3 (c : Nat) : Nat := (c + c / 16) &&& 15
theorem k85 : ∀ c, c < 256 → ∀ b, b < 2 → (c / 2 + 128 * b) &&& 85 = (c / 2) &&& 85 := by decide +kernel
theorem k51 : ∀ c, c < 256 → ∀ b, b < 4 → (c / 4 + 64 * b) &&& 51 = (c / 4) &&& 51 := by decide +kernel
theorem k15 : ∀ c, c < 256 → ∀ b, b < 16 → (c + c / 16 + 16 * b) &&& 15 = (c + c / 16) &&& 15 := by
  intro c _ b _
  rw [show (15 : Nat) = 2 ^ 4 - 1 from rfl, Nat.and_two_pow_sub_one_eq_mod, Nat.and_two_pow_sub_one_eq_mod]
  omega
theorem pq_all : ∀ c, c < 256 → pq1 c < 256 ∧ pq2 (pq1 c) < 256 ∧ pq2 (pq1 c) + pq2 (pq1 c) / 16 ≤ 100 ∧ pq2 (pq1 c) % 16 ≤ 4 ∧ pq3 (pq2 (pq1 c)) = cntM c.testBit 8 ∧ pq3 (pq2 (pq1 c)) ≤ 8 := by decide +kernel
theorem st1 : ∀ (cs : List Nat) (n : Nat), cs.length ≤ n → (∀ c ∈ cs, c < 256) → valB cs - ((valB cs / 2) &&& mvB 85 n) = valB (cs.map pq1) := by
  intro cs
  induction cs with
  | nil => intro n _ _; show 0 - ((0 / 2) &&& _) = 0; omega
  | cons c cs ih =>
    intro n hn hc
    cases n with
    | zero => simp at hn
    | succ n =>
      have hcc := hc c List.mem_cons_self
      have ih' := ih n (by simpa using hn) (fun x hx => hc x (List.mem_cons_of_mem _ hx))
      simp only [valB, List.map_cons, mvB]
      rw [← ih', show (c + 256 * valB cs) / 2 = (c / 2 + 128 * (valB cs % 2)) + 256 * (valB cs / 2) by omega, and8 (by omega) (by decide), k85 c hcc _ (by omega)]
      have h1 : (c / 2) &&& 85 ≤ c / 2 := Nat.and_le_left
      have h2 : (valB cs / 2) &&& mvB 85 n ≤ valB cs / 2 := Nat.and_le_left
      unfold pq1
      omega
theorem st2 : ∀ (cs : List Nat) (n : Nat), cs.length ≤ n → (∀ c ∈ cs, c < 256) → (valB cs &&& mvB 51 n) + ((valB cs / 4) &&& mvB 51 n) = valB (cs.map pq2) := by
  intro cs
  induction cs with
  | nil => intro n _ _; show (0 &&& _) + ((0 / 4) &&& _) = 0; simp
  | cons c cs ih =>
    intro n hn hc
    cases n with
    | zero => simp at hn
    | succ n =>
      have hcc := hc c List.mem_cons_self
      have ih' := ih n (by simpa using hn) (fun x hx => hc x (List.mem_cons_of_mem _ hx))
      simp only [valB, List.map_cons, mvB]
      rw [← ih', show (c + 256 * valB cs) / 4 = (c / 4 + 64 * (valB cs % 4)) + 256 * (valB cs / 4) by omega, and8 (by omega) (by decide), and8 (by omega) (by decide), k51 c hcc _ (by omega)]
      unfold pq2
      omega
theorem st3 : ∀ (cs : List Nat) (n : Nat), cs.length ≤ n → (∀ c ∈ cs, c < 256 ∧ c + c / 16 ≤ 100 ∧ c % 16 ≤ 4) → ((valB cs + valB cs / 16) &&& mvB 15 n) = valB (cs.map pq3) ∧ valB cs % 16 ≤ 4 := by
  intro cs
  induction cs with
  | nil => intro n _ _; exact ⟨by show (0 + 0 / 16) &&& _ = 0; simp, by decide⟩
  | cons c cs ih =>
    intro n hn hc
    cases n with
    | zero => simp at hn
    | succ n =>
      obtain ⟨h1, h2, h3⟩ := hc c List.mem_cons_self
      obtain ⟨ih', h4⟩ := ih n (by simpa using hn) (fun x hx => hc x (List.mem_cons_of_mem _ hx))
      simp only [valB, List.map_cons, mvB]
      refine ⟨?_, by omega⟩
      rw [← ih', show (c + 256 * valB cs) + (c + 256 * valB cs) / 16 = (c + c / 16 + 16 * (valB cs % 16)) + 256 * (valB cs + valB cs / 16) by omega, and8 (by omega) (by decide), k15 c h1 _ (by omega)]
      rfl
theorem bytes_of : ∀ (k n : Nat), n < 256 ^ k → ∃ cs : List Nat, cs.length = k ∧ (∀ c ∈ cs, c < 256) ∧ valB cs = n := by
  intro k
  induction k with
  | zero => intro n h; exact ⟨[], rfl, fun c hc => absurd hc List.not_mem_nil, by simp [valB]; omega⟩
  | succ k ih =>
    intro n h
    rw [Nat.pow_succ] at h
    obtain ⟨cs, h1, h2, h3⟩ := ih (n / 256) (by omega)
    refine ⟨n % 256 :: cs, by simp [h1], ?_, ?_⟩
    · intro c hc
      rcases List.mem_cons.mp hc with rfl | hc
      · omega
      · exact h2 c hc
    · simp only [valB]
      rw [h3]
      omega
theorem cnt_bytes : ∀ (cs : List Nat), (∀ c ∈ cs, c < 256) → cntM (valB cs).testBit (8 * cs.length) = (cs.map (fun c => cntM c.testBit 8)).sum := by
  intro cs
  induction cs with
  | nil => intro _; rfl
  | cons c cs ih =>
    intro hc
    have hcc := hc c List.mem_cons_self
    have ih' := ih (fun x hx => hc x (List.mem_cons_of_mem _ hx))
    rw [List.length_cons, show 8 * (cs.length + 1) = 8 + 8 * cs.length by omega, cntM_split, List.map_cons, List.sum_cons, ← ih']
    have e : valB (c :: cs) = 2 ^ 8 * valB cs + c := by simp only [valB]; omega
    congr 1
    · apply cntM_cong
      intro k hk
      rw [e, Nat.testBit_two_pow_mul_add _ (by omega), if_pos hk]
    · apply cntM_cong
      intro k hk
      rw [e, Nat.testBit_two_pow_mul_add _ (by omega), if_neg (by omega), Nat.add_sub_cancel_left]
theorem valB_lt : ∀ ds : List Nat, (∀ c ∈ ds, c < 256) → valB ds < 256 ^ ds.length := by
  intro ds
  induction ds with
  | nil => intro _; exact Nat.one_pos
  | cons c cs ih =>
    intro hc
    have h1 := hc c List.mem_cons_self
    have h2 := ih (fun x hx => hc x (List.mem_cons_of_mem _ hx))
    rw [List.length_cons, Nat.pow_succ]
    simp only [valB]
    omega
theorem valB_8 {ds : List Nat} (hl : ds.length = 8) (hd : ∀ c ∈ ds, c < 256) : valB ds < 2 ^ 64 := by
  have := valB_lt ds hd
  rw [hl] at this
  exact Nat.lt_of_lt_of_eq this (by decide)
theorem vb1 {a : Nat} {l : List Nat} (h : a < 256) : valB (a :: l) / 256 = valB l := by simp only [valB]; omega
theorem vb2 {a b : Nat} {l : List Nat} (h : a < 256) (h2 : b < 256) : valB (a :: b :: l) / 65536 = valB l := by simp only [valB]; omega
theorem vb4 {a b c d : Nat} {l : List Nat} (h : a < 256) (h2 : b < 256) (h3 : c < 256) (h4 : d < 256) : valB (a :: b :: c :: d :: l) / 4294967296 = valB l := by simp only [valB]; omega
theorem vs4 (p0 p1 p2 p3 p4 p5 p6 p7 : Nat) : valB [p0, p1, p2, p3, p4, p5, p6, p7] + valB [p1, p2, p3, p4, p5, p6, p7] = valB [p0 + p1, p1 + p2, p2 + p3, p3 + p4, p4 + p5, p5 + p6, p6 + p7, p7] := by simp only [valB]; omega
theorem vs5 (p0 p1 p2 p3 p4 p5 p6 p7 : Nat) : valB [p0, p1, p2, p3, p4, p5, p6, p7] + valB [p2, p3, p4, p5, p6, p7] = valB [p0 + p2, p1 + p3, p2 + p4, p3 + p5, p4 + p6, p5 + p7, p6, p7] := by simp only [valB]; omega
theorem vs6 {a b : Nat} {l m : List Nat} (h : a + b < 128) : (valB (a :: l) + valB (b :: m)) % 2 ^ 7 = a + b := by simp only [valB]; omega
theorem swar {p0 p1 p2 p3 p4 p5 p6 p7 : Nat} (h0 : p0 ≤ 8) (h1 : p1 ≤ 8) (h2 : p2 ≤ 8) (h3 : p3 ≤ 8) (h4 : p4 ≤ 8) (h5 : p5 ≤ 8) (h6 : p6 ≤ 8) (h7 : p7 ≤ 8) : (bcl6 (bcl5 (bcl4 (lN (valB [p0, p1, p2, p3, p4, p5, p6, p7]))))).toInt32 &&& 127 = nI (p0 + (p1 + (p2 + (p3 + (p4 + (p5 + (p6 + (p7 + 0)))))))) := by
  have sh : ∀ (a k : Nat), a < 2 ^ 64 → k < 64 → ((lN a).toUInt64 >>> ((nI k).toInt64.toUInt64 &&& Int64.toUInt64 63)).toInt64 = lN (a / 2 ^ k) := fun a k h1 h2 => wb_shr h1 h2
  have b0 : valB [p0, p1, p2, p3, p4, p5, p6, p7] < 2 ^ 64 := valB_8 rfl (by simp; omega)
  have f4 : bcl4 (lN (valB [p0, p1, p2, p3, p4, p5, p6, p7])) = lN (valB [p0 + p1, p1 + p2, p2 + p3, p3 + p4, p4 + p5, p5 + p6, p6 + p7, p7]) := by
    unfold bcl4
    rw [show (8 : Int32) = nI 8 from rfl, sh _ 8 b0 (by decide), lN_add, show (2 : Nat) ^ 8 = 256 from rfl, vb1 (by omega), vs4]
  have b1 : valB [p0 + p1, p1 + p2, p2 + p3, p3 + p4, p4 + p5, p5 + p6, p6 + p7, p7] < 2 ^ 64 := valB_8 rfl (by simp; omega)
  have f5 : bcl5 (lN (valB [p0 + p1, p1 + p2, p2 + p3, p3 + p4, p4 + p5, p5 + p6, p6 + p7, p7])) = lN (valB [p0 + p1 + (p2 + p3), p1 + p2 + (p3 + p4), p2 + p3 + (p4 + p5), p3 + p4 + (p5 + p6), p4 + p5 + (p6 + p7), p5 + p6 + p7, p6 + p7, p7]) := by
    unfold bcl5
    rw [show (16 : Int32) = nI 16 from rfl, sh _ 16 b1 (by decide), lN_add, show (2 : Nat) ^ 16 = 65536 from rfl, vb2 (by omega) (by omega), vs5]
  have b2 : valB [p0 + p1 + (p2 + p3), p1 + p2 + (p3 + p4), p2 + p3 + (p4 + p5), p3 + p4 + (p5 + p6), p4 + p5 + (p6 + p7), p5 + p6 + p7, p6 + p7, p7] < 2 ^ 64 := valB_8 rfl (by simp; omega)
  have f6 : bcl6 (lN (valB [p0 + p1 + (p2 + p3), p1 + p2 + (p3 + p4), p2 + p3 + (p4 + p5), p3 + p4 + (p5 + p6), p4 + p5 + (p6 + p7), p5 + p6 + p7, p6 + p7, p7])) = lN (valB [p0 + p1 + (p2 + p3), p1 + p2 + (p3 + p4), p2 + p3 + (p4 + p5), p3 + p4 + (p5 + p6), p4 + p5 + (p6 + p7), p5 + p6 + p7, p6 + p7, p7] + valB [p4 + p5 + (p6 + p7), p5 + p6 + p7, p6 + p7, p7]) := by
    unfold bcl6
    rw [show (32 : Int32) = nI 32 from rfl, sh _ 32 b2 (by decide), lN_add, show (2 : Nat) ^ 32 = 4294967296 from rfl, vb4 (by omega) (by omega) (by omega) (by omega)]
  rw [f4, f5, f6, lN_i, show (127 : Int32) = nI (2 ^ 7 - 1) from rfl, fa_mask, vs6 (by omega)]
  congr 1
  omega
theorem bcl_cnt (x : Int64) : bcl x = nI (cntM (bl x) 64) := by
  obtain ⟨n, hn, rfl⟩ := wb_of x
  obtain ⟨cs, hl, hc, rfl⟩ := bytes_of 8 n (by simpa using hn)
  have hb : cntM (bl (lN (valB cs))) 64 = (cs.map (fun c => cntM c.testBit 8)).sum := by
    rw [← cnt_bytes cs hc, hl]
    exact cntM_cong 64 (fun k hk => bl_lN hk)
  have hb2 : cs.map (fun c => cntM c.testBit 8) = cs.map (fun c => pq3 (pq2 (pq1 c))) := by
    apply List.map_congr_left
    intro c hcm
    exact (pq_all c (hc c hcm)).2.2.2.2.1.symm
  have sh : ∀ (a k : Nat), a < 2 ^ 64 → k < 64 → ((lN a).toUInt64 >>> ((nI k).toInt64.toUInt64 &&& Int64.toUInt64 63)).toInt64 = lN (a / 2 ^ k) := fun a k h1 h2 => wb_shr h1 h2
  have v1 := st1 cs 8 (by omega) hc
  have c1 : ∀ c ∈ cs.map pq1, c < 256 := by
    intro c hcm
    obtain ⟨d, hd, rfl⟩ := List.mem_map.mp hcm
    exact (pq_all d (hc d hd)).1
  have v2 := st2 (cs.map pq1) 8 (by simp [hl]) c1
  have c2 : ∀ c ∈ (cs.map pq1).map pq2, c < 256 ∧ c + c / 16 ≤ 100 ∧ c % 16 ≤ 4 := by
    intro c hcm
    obtain ⟨d, hd, rfl⟩ := List.mem_map.mp hcm
    obtain ⟨d2, hd2, rfl⟩ := List.mem_map.mp hd
    have := pq_all d2 (hc d2 hd2)
    exact ⟨this.2.1, this.2.2.1, this.2.2.2.1⟩
  have v3 := (st3 ((cs.map pq1).map pq2) 8 (by simp [hl]) c2).1
  have lt : ∀ (ds : List Nat), ds.length = 8 → (∀ c ∈ ds, c < 256) → valB ds < 2 ^ 64 := fun ds hds hd => by
    exact valB_8 hds hd
  have l0 := lt cs hl hc
  have l1 := lt (cs.map pq1) (by simp [hl]) c1
  have l2 := lt ((cs.map pq1).map pq2) (by simp [hl]) (fun c hcm => (c2 c hcm).1)
  have e1 : bcl1 (lN (valB cs)) = lN (valB (cs.map pq1)) := by
    unfold bcl1
    rw [show (1 : Int32) = nI 1 from rfl, sh _ 1 l0 (by decide), show (6148914691236517205 : Int64) = lN (mvB 85 8) by decide +kernel, fb_andL, show (2 : Nat) ^ 1 = 2 from rfl]
    rw [lN_sub (Nat.le_trans Nat.and_le_left (Nat.div_le_self _ _)), v1]
  have e2 : bcl2 (lN (valB (cs.map pq1))) = lN (valB ((cs.map pq1).map pq2)) := by
    unfold bcl2
    rw [show (2 : Int32) = nI 2 from rfl, sh _ 2 l1 (by decide), show (3689348814741910323 : Int64) = lN (mvB 51 8) by decide +kernel, fb_andL, fb_andL, lN_add, show (2 : Nat) ^ 2 = 4 from rfl, v2]
  have e3 : bcl3 (lN (valB ((cs.map pq1).map pq2))) = lN (valB (((cs.map pq1).map pq2).map pq3)) := by
    unfold bcl3
    rw [show (4 : Int32) = nI 4 from rfl, sh _ 4 l2 (by decide), show (1085102592571150095 : Int64) = lN (mvB 15 8) by decide +kernel, lN_add, fb_andL, show (2 : Nat) ^ 4 = 16 from rfl, v3]
  have e5 : ((cs.map pq1).map pq2).map pq3 = cs.map (fun c => pq3 (pq2 (pq1 c))) := by simp [List.map_map, Function.comp_def]
  unfold bcl
  rw [hb, hb2, e1, e2, e3, e5]
  have h8 : ∀ c ∈ cs, pq3 (pq2 (pq1 c)) ≤ 8 := fun c hcm => (pq_all c (hc c hcm)).2.2.2.2.2
  clear e1 e2 e3 e5 v1 v2 v3 c1 c2 l0 l1 l2 hb hb2 lt
  match cs, hl with
  | [d0, d1, d2, d3, d4, d5, d6, d7], _ =>
    simp only [List.map_cons, List.map_nil, List.sum_cons, List.sum_nil]
    exact swar (h8 d0 (by simp)) (h8 d1 (by simp)) (h8 d2 (by simp)) (h8 d3 (by simp)) (h8 d4 (by simp)) (h8 d5 (by simp)) (h8 d6 (by simp)) (h8 d7 (by simp))
