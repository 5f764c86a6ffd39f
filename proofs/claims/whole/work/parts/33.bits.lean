section
variable {X : Nat × (Nat → Int32)} {d : Nat} {I : Nat → Nat → Int32} {J : Nat → Nat → Int64}
/-! ===== bits of a long ===== -/
theorem tb256 {a b : Nat} (ha : a < 256) (j : Nat) : (a + 256 * b).testBit j = if j < 8 then a.testBit j else b.testBit (j - 8) := by
  have := Nat.testBit_two_pow_mul_add b (b := a) (i := 8) ha j
  rwa [show 2 ^ 8 * b + a = a + 256 * b by omega] at this
theorem and256 {a b m M : Nat} (ha : a < 256) (hm : m < 256) : (a + 256 * b) &&& (m + 256 * M) = (a &&& m) + 256 * (b &&& M) := by
  apply Nat.eq_of_testBit_eq
  intro j
  rw [Nat.testBit_and, tb256 ha, tb256 hm, tb256 (Nat.lt_of_le_of_lt Nat.and_le_left ha)]
  by_cases h : j < 8
  · rw [if_pos h, if_pos h, if_pos h, Nat.testBit_and]
  · rw [if_neg h, if_neg h, if_neg h, Nat.testBit_and]
def BY : List Nat → Nat
  | [] => 0
  | b :: l => b + 256 * BY l
def MK (m : Nat) : Nat → Nat
  | 0 => 0
  | k + 1 => m + 256 * MK m k
def t1 (b : Nat) : Nat := b - (b / 2 &&& 85)
def t2 (b : Nat) : Nat := (b &&& 51) + (b / 4 &&& 51)
def t3 (b : Nat) : Nat := (b + b / 16) &&& 15
theorem lm1 : ∀ L, L < 256 → ∀ c, c < 2 → (L / 2 + 128 * c) &&& 85 = L / 2 &&& 85 := by decide +kernel
theorem lm2 : ∀ L, L < 256 → ∀ c, c < 4 → (L / 4 + 64 * c) &&& 51 = L / 4 &&& 51 := by decide +kernel
theorem lm3 : ∀ L, L < 69 → ∀ c, c < 5 → (L + (L / 16 + 16 * c)) &&& 15 = (L + L / 16) &&& 15 := by decide +kernel
theorem lm4 : ∀ b, b < 256 → t1 b < 256 ∧ t2 (t1 b) < 69 ∧ t2 (t1 b) % 16 < 5 ∧ t3 (t2 (t1 b)) = cntP (fun i => b.testBit i) 8 ∧ t3 (t2 (t1 b)) < 9 := by decide +kernel
theorem F1s {L H M : Nat} (hL : L < 256) : (L + 256 * H) - ((L + 256 * H) / 2 &&& (85 + 256 * M)) = t1 L + 256 * (H - (H / 2 &&& M)) := by
  have e : (L + 256 * H) / 2 = (L / 2 + 128 * (H % 2)) + 256 * (H / 2) := by omega
  rw [e, and256 (by omega) (by decide), lm1 L hL (H % 2) (Nat.mod_lt _ (by decide))]
  have h1 : L / 2 &&& 85 ≤ L / 2 := Nat.and_le_left
  have h2 : H / 2 &&& M ≤ H / 2 := Nat.and_le_left
  unfold t1
  generalize L / 2 &&& 85 = u at *
  generalize H / 2 &&& M = w at *
  omega
theorem F1_BY : ∀ l : List Nat, (∀ b ∈ l, b < 256) → BY l - (BY l / 2 &&& MK 85 l.length) = BY (l.map t1)
  | [], _ => rfl
  | b :: l, h => by
    show (b + 256 * BY l) - ((b + 256 * BY l) / 2 &&& (85 + 256 * MK 85 l.length)) = t1 b + 256 * BY (l.map t1)
    rw [F1s (h b (List.mem_cons_self ..)), F1_BY l (fun c hc => h c (List.mem_cons_of_mem _ hc))]
theorem F2s {L H M : Nat} (hL : L < 256) : ((L + 256 * H) &&& (51 + 256 * M)) + ((L + 256 * H) / 4 &&& (51 + 256 * M)) = t2 L + 256 * ((H &&& M) + (H / 4 &&& M)) := by
  have e : (L + 256 * H) / 4 = (L / 4 + 64 * (H % 4)) + 256 * (H / 4) := by omega
  rw [e, and256 hL (by decide), and256 (by omega) (by decide), lm2 L hL (H % 4) (Nat.mod_lt _ (by decide))]
  unfold t2
  generalize L / 4 &&& 51 = u at *
  generalize H / 4 &&& M = w at *
  generalize L &&& 51 = u2 at *
  generalize H &&& M = w2 at *
  omega
theorem F2_BY : ∀ l : List Nat, (∀ b ∈ l, b < 256) → (BY l &&& MK 51 l.length) + (BY l / 4 &&& MK 51 l.length) = BY (l.map t2)
  | [], _ => rfl
  | b :: l, h => by
    show ((b + 256 * BY l) &&& (51 + 256 * MK 51 l.length)) + ((b + 256 * BY l) / 4 &&& (51 + 256 * MK 51 l.length)) = t2 b + 256 * BY (l.map t2)
    rw [F2s (h b (List.mem_cons_self ..)), F2_BY l (fun c hc => h c (List.mem_cons_of_mem _ hc))]
theorem F3s {L H M : Nat} (hL : L < 69) (hH : H % 16 < 5) : ((L + 256 * H) + (L + 256 * H) / 16) &&& (15 + 256 * M) = t3 L + 256 * ((H + H / 16) &&& M) := by
  have e : (L + 256 * H) + (L + 256 * H) / 16 = (L + (L / 16 + 16 * (H % 16))) + 256 * (H + H / 16) := by omega
  rw [e, and256 (by omega) (by decide), lm3 L hL (H % 16) hH]
  rfl
theorem F3_BY : ∀ l : List Nat, (∀ b ∈ l, b < 69 ∧ b % 16 < 5) → (BY l + BY l / 16) &&& MK 15 l.length = BY (l.map t3)
  | [], _ => rfl
  | b :: l, h => by
    show ((b + 256 * BY l) + (b + 256 * BY l) / 16) &&& (15 + 256 * MK 15 l.length) = t3 b + 256 * BY (l.map t3)
    have hl : BY l % 16 < 5 := by
      cases l with
      | nil => show (0 : Nat) % 16 < 5; decide
      | cons c l2 =>
        have := (h c (List.mem_cons_of_mem _ (List.mem_cons_self ..))).2
        show (c + 256 * BY l2) % 16 < 5
        omega
    rw [F3s (h b (List.mem_cons_self ..)).1 hl, F3_BY l (fun c hc => h c (List.mem_cons_of_mem _ hc))]
theorem cntP_add (p : Nat → Bool) (m : Nat) : ∀ n, cntP p (m + n) = cntP p m + cntP (fun i => p (m + i)) n
  | 0 => rfl
  | n + 1 => by
    rw [← Nat.add_assoc, cntP_s, cntP_s, cntP_add p m n]
    split <;> rfl
theorem cntP_congr {p q : Nat → Bool} : ∀ {n : Nat}, (∀ i, i < n → p i = q i) → cntP p n = cntP q n
  | 0, _ => rfl
  | n + 1, h => by rw [cntP_s, cntP_s, cntP_congr (n := n) (fun i hi => h i (by omega)), h n (by omega)]
theorem cnt256 {b H n : Nat} (hb : b < 256) : cntP (fun i => (b + 256 * H).testBit i) (8 + n) = cntP (fun i => b.testBit i) 8 + cntP (fun i => H.testBit i) n := by
  rw [cntP_add]
  congr 1
  · exact cntP_congr (fun i hi => by rw [tb256 hb, if_pos hi])
  · exact cntP_congr (fun i hi => by rw [tb256 hb, if_neg (by omega), show 8 + i - 8 = i by omega])
theorem and_lN (a b : Nat) : lN a &&& lN b = lN (a &&& b) := by
  apply Int64.toBitVec_inj.mp
  show BitVec.ofNat 64 a &&& BitVec.ofNat 64 b = BitVec.ofNat 64 (a &&& b)
  exact BitVec.ofNat_and.symm
theorem or_lN (a b : Nat) : lN a ||| lN b = lN (a ||| b) := by
  apply Int64.toBitVec_inj.mp
  show BitVec.ofNat 64 a ||| BitVec.ofNat 64 b = BitVec.ofNat 64 (a ||| b)
  exact BitVec.ofNat_or.symm
theorem lus {n : Nat} (hn : n < 2 ^ 64) {s : Int32} (k : Nat) (hs : ((s.toInt64.toUInt64 &&& Int64.toUInt64 63).toBitVec % 64).toNat = k) : ((lN n).toUInt64 >>> (s.toInt64.toUInt64 &&& Int64.toUInt64 63)).toInt64 = lN (n / 2 ^ k) := by
  apply Int64.toBitVec_inj.mp
  apply BitVec.eq_of_toNat_eq
  have e : ((lN n).toUInt64 >>> (s.toInt64.toUInt64 &&& Int64.toUInt64 63)).toInt64.toBitVec = (lN n).toBitVec >>> k := by
    rw [← hs]
    exact UInt64.toBitVec_shiftRight _ _
  have e2 : (lN n).toBitVec.toNat = n := Nat.mod_eq_of_lt hn
  have e3 : (lN (n / 2 ^ k)).toBitVec.toNat = n / 2 ^ k := Nat.mod_eq_of_lt (Nat.lt_of_le_of_lt (Nat.div_le_self _ _) hn)
  rw [e, BitVec.toNat_ushiftRight, Nat.shiftRight_eq_div_pow, e2, e3]
def pop64 (n : Nat) : Nat := cntP (fun i => n.testBit i) 64
def by8 (n : Nat) : List Nat := [n % 256, n / 256 % 256, n / 65536 % 256, n / 16777216 % 256, n / 4294967296 % 256, n / 1099511627776 % 256, n / 281474976710656 % 256, n / 72057594037927936]
theorem by8_eq (n : Nat) : BY (by8 n) = n := by
  unfold by8 BY BY BY BY BY BY BY BY BY
  omega
theorem by8_lt {n : Nat} (h : n < 2 ^ 64) : ∀ b ∈ by8 n, b < 256 := by
  unfold by8
  intro b hb
  simp only [List.mem_cons, List.not_mem_nil, or_false] at hb
  omega
theorem BY_pop : ∀ l : List Nat, (∀ b ∈ l, b < 256) → cntP (fun i => (BY l).testBit i) (8 * l.length) = ((l.map t1).map t2).foldr (fun b a => t3 b + a) 0
  | [], _ => rfl
  | b :: l, h => by
    have hb := h b (List.mem_cons_self ..)
    show cntP (fun i => (b + 256 * BY l).testBit i) (8 * (l.length + 1)) = t3 (t2 (t1 b)) + ((l.map t1).map t2).foldr (fun b a => t3 b + a) 0
    rw [show 8 * (l.length + 1) = 8 + 8 * l.length by omega, cnt256 hb, BY_pop l (fun c hc => h c (List.mem_cons_of_mem _ hc)), (lm4 b hb).2.2.2.1]
theorem map_lt {l : List Nat} {f : Nat → Nat} {Q R : Nat → Prop} (h : ∀ b ∈ l, Q b) (hf : ∀ b, Q b → R (f b)) : ∀ b ∈ l.map f, R b := by
  intro b hb
  obtain ⟨c, hc, rfl⟩ := List.mem_map.mp hb
  exact hf c (h c hc)
theorem BY_lt : ∀ l : List Nat, (∀ b ∈ l, b < 256) → BY l < 256 ^ l.length
  | [], _ => by show (0 : Nat) < 1; decide
  | b :: l, h => by
    have h1 := h b (List.mem_cons_self ..)
    have h2 := BY_lt l (fun c hc => h c (List.mem_cons_of_mem _ hc))
    show b + 256 * BY l < 256 ^ (l.length + 1)
    rw [Nat.pow_succ]
    omega
theorem BY8_lt {a b c d e f g h : Nat} (ha : a < 256) (hb : b < 256) (hc : c < 256) (hd : d < 256) (he : e < 256) (hf : f < 256) (hg : g < 256) (hh : h < 256) : BY [a, b, c, d, e, f, g, h] < 2 ^ 64 := by
  have := BY_lt [a, b, c, d, e, f, g, h] (fun x hx => by
    simp only [List.mem_cons, List.not_mem_nil, or_false] at hx
    rcases hx with rfl | rfl | rfl | rfl | rfl | rfl | rfl | rfl <;> assumption)
  rw [show [a, b, c, d, e, f, g, h].length = 8 from rfl, show 256 ^ 8 = 2 ^ 64 by decide] at this
  exact this
theorem BYz (a : Nat) (l : List Nat) (k : Nat) : BY (a :: l) + 256 * k = a + 256 * (BY l + k) := by
  show a + 256 * BY l + 256 * k = _
  omega
theorem BY_c (a b : Nat) (l m : List Nat) : BY (a :: l) + BY (b :: m) = (a + b) + 256 * (BY l + BY m) := by
  show (a + 256 * BY l) + (b + 256 * BY m) = _
  omega
theorem BY_d {a : Nat} {l : List Nat} (ha : a < 256) : BY (a :: l) / 256 = BY l := by
  show (a + 256 * BY l) / 256 = BY l
  omega
theorem BY_p {a b X : Nat} {l m : List Nat} (h : BY l + BY m = X) : BY (a :: l) + BY (b :: m) = (a + b) + 256 * X := by rw [BY_c, h]
theorem BY_1 {p0 p1 p2 p3 p4 p5 p6 p7 : Nat} (h0 : p0 < 256) : BY [p0, p1, p2, p3, p4, p5, p6, p7] + BY [p0, p1, p2, p3, p4, p5, p6, p7] / 256 = BY [p0 + p1, p1 + p2, p2 + p3, p3 + p4, p4 + p5, p5 + p6, p6 + p7, p7] := by
  rw [BY_d h0]
  exact BY_p (BY_p (BY_p (BY_p (BY_p (BY_p (BY_p (show BY [p7] + BY [] = BY [p7] from rfl)))))))
theorem BY_2 {p0 p1 p2 p3 p4 p5 p6 p7 : Nat} (h0 : p0 < 256) (h1 : p1 < 256) : BY [p0, p1, p2, p3, p4, p5, p6, p7] + BY [p0, p1, p2, p3, p4, p5, p6, p7] / 65536 = BY [p0 + p2, p1 + p3, p2 + p4, p3 + p5, p4 + p6, p5 + p7, p6, p7] := by
  rw [show BY [p0, p1, p2, p3, p4, p5, p6, p7] / 65536 = BY [p2, p3, p4, p5, p6, p7] by
    rw [show 65536 = 256 * 256 by decide, ← Nat.div_div_eq_div_mul, BY_d h0, BY_d h1]]
  exact BY_p (BY_p (BY_p (BY_p (BY_p (BY_p (show BY [p6, p7] + BY [] = BY [p6, p7] from rfl))))))
theorem BY_3 {p0 p1 p2 p3 p4 p5 p6 p7 : Nat} (h0 : p0 < 256) (h1 : p1 < 256) (h2 : p2 < 256) (h3 : p3 < 256) : BY [p0, p1, p2, p3, p4, p5, p6, p7] + BY [p0, p1, p2, p3, p4, p5, p6, p7] / 4294967296 = BY [p0 + p4, p1 + p5, p2 + p6, p3 + p7, p4, p5, p6, p7] := by
  rw [show BY [p0, p1, p2, p3, p4, p5, p6, p7] / 4294967296 = BY [p4, p5, p6, p7] by
    rw [show 4294967296 = 256 * 256 * 256 * 256 by decide, ← Nat.div_div_eq_div_mul, ← Nat.div_div_eq_div_mul, ← Nat.div_div_eq_div_mul, BY_d h0, BY_d h1, BY_d h2, BY_d h3]]
  exact BY_p (BY_p (BY_p (BY_p (show BY [p4, p5, p6, p7] + BY [] = BY [p4, p5, p6, p7] from rfl))))
theorem BY_m {a : Nat} {l : List Nat} (ha : a < 128) : BY (a :: l) % 128 = a := by
  show (a + 256 * BY l) % 128 = a
  omega
theorem bc_end {p0 p1 p2 p3 p4 p5 p6 p7 : Nat} (h0 : p0 < 9) (h1 : p1 < 9) (h2 : p2 < 9) (h3 : p3 < 9) (h4 : p4 < 9) (h5 : p5 < 9) (h6 : p6 < 9) (h7 : p7 < 9) :
    ∃ c e g, BY [p0, p1, p2, p3, p4, p5, p6, p7] = c ∧ c + c / 256 = e ∧ e + e / 65536 = g ∧ c < 2 ^ 64 ∧ e < 2 ^ 64 ∧ g < 2 ^ 64 ∧ (g + g / 4294967296) % 128 = p0 + (p1 + (p2 + (p3 + (p4 + (p5 + (p6 + (p7 + 0))))))) :=
  ⟨_, _, _, rfl, BY_1 (by omega), BY_2 (by omega) (by omega), BY8_lt (by omega) (by omega) (by omega) (by omega) (by omega) (by omega) (by omega) (by omega), BY8_lt (by omega) (by omega) (by omega) (by omega) (by omega) (by omega) (by omega) (by omega), BY8_lt (by omega) (by omega) (by omega) (by omega) (by omega) (by omega) (by omega) (by omega), by
    rw [BY_3 (by omega) (by omega) (by omega) (by omega), BY_m (by omega)]
    omega⟩
theorem pop_or {m h : Nat} : ∀ {n : Nat}, h < n → cntP (fun i => (m ||| 2 ^ h).testBit i) n = if m.testBit h then cntP (fun i => m.testBit i) n else cntP (fun i => m.testBit i) n + 1
  | n + 1, hn => by
    rw [cntP_s, cntP_s]
    have e : ∀ i, (m ||| 2 ^ h).testBit i = (m.testBit i || decide (h = i)) := fun i => by rw [Nat.testBit_or, Nat.testBit_two_pow]
    rcases Nat.lt_or_ge h n with q | q
    · rw [pop_or (n := n) q, e n, decide_eq_false (show ¬ h = n by omega), Bool.or_false]
      split <;> split <;> omega
    · have hh : h = n := by omega
      subst hh
      rw [e h, decide_eq_true rfl, Bool.or_true, if_pos rfl, cntP_congr (q := fun i => m.testBit i) (fun i hi => by rw [e i, decide_eq_false (by omega), Bool.or_false])]
      split <;> rfl
theorem ct_bitCountL {n : Nat} (hn : n < 2 ^ 64) : Ct X d 66 M_J13_bitCount_95d88 66 [.long (lN n)] (I, J, rf0) (RI (fun y9 m => y9 = nI (pop64 n) ∧ m = (I, J, rf0))) := by
  have hb := by8_lt hn
  have hn8 : n = BY (by8 n) := (by8_eq n).symm
  have hb1 : ∀ b ∈ (by8 n).map t1, b < 256 := map_lt hb (fun b q => (lm4 b q).1)
  have hb2 : ∀ b ∈ ((by8 n).map t1).map t2, b < 69 ∧ b % 16 < 5 := by
    rw [List.map_map]
    exact map_lt hb (fun b q => ⟨(lm4 b q).2.1, (lm4 b q).2.2.1⟩)
  have f1 : BY (by8 n) - (BY (by8 n) / 2 &&& MK 85 8) = BY ((by8 n).map t1) := F1_BY (by8 n) hb
  have f2 : (BY ((by8 n).map t1) &&& MK 51 8) + (BY ((by8 n).map t1) / 4 &&& MK 51 8) = BY (((by8 n).map t1).map t2) := F2_BY ((by8 n).map t1) hb1
  have f3 : (BY (((by8 n).map t1).map t2) + BY (((by8 n).map t1).map t2) / 16) &&& MK 15 8 = BY ((((by8 n).map t1).map t2).map t3) := F3_BY (((by8 n).map t1).map t2) hb2
  have hpop : pop64 n = (((by8 n).map t1).map t2).foldr (fun b a => t3 b + a) 0 := by
    have := BY_pop (by8 n) hb
    rw [by8_eq] at this
    exact this
  have l1 : BY ((by8 n).map t1) < 2 ^ 64 := by
    have := BY_lt _ hb1
    rw [show ((by8 n).map t1).length = 8 from rfl, show 256 ^ 8 = 2 ^ 64 by decide] at this
    exact this
  have l2 : BY (((by8 n).map t1).map t2) < 2 ^ 64 := by
    have := BY_lt (((by8 n).map t1).map t2) (fun b q => Nat.lt_trans (hb2 b q).1 (by decide))
    rw [show (((by8 n).map t1).map t2).length = 8 from rfl, show 256 ^ 8 = 2 ^ 64 by decide] at this
    exact this
  have q4 : ∀ b, b < 256 → t3 (t2 (t1 b)) < 9 := fun b q => (lm4 b q).2.2.2.2
  obtain ⟨c, e, g, hc, he, hg, lc, le, lg, hend⟩ := bc_end (q4 (n % 256) (by omega)) (q4 (n / 256 % 256) (by omega)) (q4 (n / 65536 % 256) (by omega)) (q4 (n / 16777216 % 256) (by omega)) (q4 (n / 4294967296 % 256) (by omega)) (q4 (n / 1099511627776 % 256) (by omega)) (q4 (n / 281474976710656 % 256) (by omega)) (q4 (n / 72057594037927936) (by omega))
  have hc3 : BY ((((by8 n).map t1).map t2).map t3) = c := hc
  show Go _ _ _ _ _ _ [_, _] _ _ _
  refine g_lload_n dJ13_bitCount_95d88_0 rfl ?_
  refine g_lload_n dJ13_bitCount_95d88_1 rfl ?_
  refine g_iconst (v := 1) dJ13_bitCount_95d88_2 (by decide) ?_
  refine g_lushr dJ13_bitCount_95d88_3 ?_
  rw [lus (hn) 1 (by decide)]
  refine g_ldc2 dJ13_bitCount_95d88_4 tb_793 ?_
  refine g_land dJ13_bitCount_95d88_7 ?_
  rw [show (6148914691236517205 : Int64) = lN (MK 85 8) by decide, show n / 2 ^ 1 = n / 2 from rfl, and_lN]
  refine g_lsub dJ13_bitCount_95d88_8 ?_
  rw [lN_sub (Nat.le_trans Nat.and_le_left (Nat.div_le_self _ _)), show n - (n / 2 &&& MK 85 8) = BY ((by8 n).map t1) by rw [← f1, ← hn8]]
  refine g_lstore_n dJ13_bitCount_95d88_9 (by decide) ?_
  show Go _ _ _ _ _ _ [_, _] _ _ _
  refine g_lload_n dJ13_bitCount_95d88_10 rfl ?_
  refine g_ldc2 dJ13_bitCount_95d88_11 tb_794 ?_
  refine g_land dJ13_bitCount_95d88_14 ?_
  rw [show (3689348814741910323 : Int64) = lN (MK 51 8) by decide, and_lN]
  refine g_lload_n dJ13_bitCount_95d88_15 rfl ?_
  refine g_iconst (v := 2) dJ13_bitCount_95d88_16 (by decide) ?_
  refine g_lushr dJ13_bitCount_95d88_17 ?_
  rw [lus (l1) 2 (by decide)]
  refine g_ldc2 dJ13_bitCount_95d88_18 tb_794 ?_
  refine g_land dJ13_bitCount_95d88_21 ?_
  rw [show (3689348814741910323 : Int64) = lN (MK 51 8) by decide, show BY ((by8 n).map t1) / 2 ^ 2 = BY ((by8 n).map t1) / 4 from rfl, and_lN]
  refine g_ladd dJ13_bitCount_95d88_22 ?_
  rw [lN_add, f2]
  refine g_lstore_n dJ13_bitCount_95d88_23 (by decide) ?_
  show Go _ _ _ _ _ _ [_, _] _ _ _
  refine g_lload_n dJ13_bitCount_95d88_24 rfl ?_
  refine g_lload_n dJ13_bitCount_95d88_25 rfl ?_
  refine g_iconst (v := 4) dJ13_bitCount_95d88_26 (by decide) ?_
  refine g_lushr dJ13_bitCount_95d88_27 ?_
  rw [lus (l2) 4 (by decide)]
  refine g_ladd dJ13_bitCount_95d88_28 ?_
  rw [show BY (((by8 n).map t1).map t2) / 2 ^ 4 = BY (((by8 n).map t1).map t2) / 16 from rfl, lN_add]
  refine g_ldc2 dJ13_bitCount_95d88_29 tb_795 ?_
  refine g_land dJ13_bitCount_95d88_32 ?_
  rw [show (1085102592571150095 : Int64) = lN (MK 15 8) by decide, and_lN, f3, hc3]
  refine g_lstore_n dJ13_bitCount_95d88_33 (by decide) ?_
  show Go _ _ _ _ _ _ [_, _] _ _ _
  refine g_lload_n dJ13_bitCount_95d88_34 rfl ?_
  refine g_lload_n dJ13_bitCount_95d88_35 rfl ?_
  refine g_bipush (v := 8) dJ13_bitCount_95d88_36 (by decide) ?_
  refine g_lushr dJ13_bitCount_95d88_38 ?_
  rw [lus (lc) 8 (by decide)]
  refine g_ladd dJ13_bitCount_95d88_39 ?_
  rw [show c / 2 ^ 8 = c / 256 from rfl, lN_add, he]
  refine g_lstore_n dJ13_bitCount_95d88_40 (by decide) ?_
  show Go _ _ _ _ _ _ [_, _] _ _ _
  refine g_lload_n dJ13_bitCount_95d88_41 rfl ?_
  refine g_lload_n dJ13_bitCount_95d88_42 rfl ?_
  refine g_bipush (v := 16) dJ13_bitCount_95d88_43 (by decide) ?_
  refine g_lushr dJ13_bitCount_95d88_45 ?_
  rw [lus (le) 16 (by decide)]
  refine g_ladd dJ13_bitCount_95d88_46 ?_
  rw [show e / 2 ^ 16 = e / 65536 from rfl, lN_add, hg]
  refine g_lstore_n dJ13_bitCount_95d88_47 (by decide) ?_
  show Go _ _ _ _ _ _ [_, _] _ _ _
  refine g_lload_n dJ13_bitCount_95d88_48 rfl ?_
  refine g_lload_n dJ13_bitCount_95d88_49 rfl ?_
  refine g_bipush (v := 32) dJ13_bitCount_95d88_50 (by decide) ?_
  refine g_lushr dJ13_bitCount_95d88_52 ?_
  rw [lus (lg) 32 (by decide)]
  refine g_ladd dJ13_bitCount_95d88_53 ?_
  rw [show g / 2 ^ 32 = g / 4294967296 from rfl, lN_add]
  refine g_lstore_n dJ13_bitCount_95d88_54 (by decide) ?_
  show Go _ _ _ _ _ _ [_, _] _ _ _
  refine g_lload_n dJ13_bitCount_95d88_55 rfl ?_
  refine g_l2i dJ13_bitCount_95d88_56 ?_
  rw [lN_i]
  refine g_bipush (v := 127) dJ13_bitCount_95d88_57 (by decide) ?_
  refine g_iand dJ13_bitCount_95d88_59 ?_
  refine g_iret dJ13_bitCount_95d88_60 (fun ty h => by cases h; rfl) ?_
  refine ⟨?_, rfl⟩
  rw [pk_and _ 7 (by decide)]
  show nI ((g + g / 4294967296) % 2 ^ 32 % 2 ^ 7) = _
  rw [Nat.mod_mod_of_dvd _ (show 2 ^ 7 ∣ 2 ^ 32 by decide), show 2 ^ 7 = 128 by decide, hend, hpop]
  rfl
theorem shl1L : ∀ h, h < 64 → (1 : Int64) <<< ((nI h).toInt64 &&& 63) = lN (2 ^ h) := by decide +kernel
theorem smodL : ∀ h, h < 64 → (((nI h).toInt64 &&& 63).toBitVec.smod 64).toNat = h := by decide +kernel
theorem bitL {m h : Nat} (hm : m < 2 ^ 64) (hh : h < 64) : (lN m >>> ((nI h).toInt64 &&& 63)) &&& 1 = lN (if m.testBit h then 1 else 0) := by
  apply Int64.toBitVec_inj.mp
  apply BitVec.eq_of_getLsbD_eq
  intro i hi
  show BitVec.getLsbD ((lN m).toBitVec.sshiftRight' (((nI h).toInt64 &&& 63).toBitVec.smod 64) &&& (1 : Int64).toBitVec) i = _
  rw [BitVec.getLsbD_and, BitVec.getLsbD_sshiftRight', smodL h hh]
  have e1 : (1 : Int64).toBitVec = 1#64 := by decide
  have e2 : ∀ j, (lN m).toBitVec.getLsbD j = (decide (j < 64) && m.testBit j) := fun j => BitVec.getLsbD_ofNat 64 m j
  have e3 : (lN (if m.testBit h then 1 else 0)).toBitVec.getLsbD i = (decide (i < 64) && (if m.testBit h then 1 else 0 : Nat).testBit i) := BitVec.getLsbD_ofNat 64 _ i
  rw [e1, e3, BitVec.getLsbD_one]
  rcases Nat.eq_zero_or_pos i with q | q
  · subst q
    rw [if_pos (by omega), e2]
    cases m.testBit h <;> simp <;> omega
  · have z : (if m.testBit h then 1 else 0 : Nat).testBit i = false := by
      cases m.testBit h with
      | true => exact Nat.testBit_lt_two_pow (Nat.one_lt_two_pow (by omega))
      | false => exact Nat.zero_testBit i
    rw [z, decide_eq_false (show ¬ i = 0 by omega)]
    simp
end
