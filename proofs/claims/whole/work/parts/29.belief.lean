section
variable {X : Nat × (Nat → Int32)} {d : Nat} {I : Nat → Nat → Int32} {J : Nat → Nat → Int64}
/-! ===== belief: what is meant ===== -/
theorem go_ix (e : Nat) (G : Nat → Prop) (hs : ∀ i, i < e → G (i + 1) → G i) (he : G e) : G 0 := by
  have key : ∀ n i, i + n = e → G i := by
    intro n
    induction n with
    | zero => intro i hi; rw [Nat.add_zero] at hi; rw [hi]; exact he
    | succ n ih => intro i hi; exact hs i (by omega) (ih (i + 1) (by omega))
  exact key e 0 (by omega)
theorem foldU {v : Nat → Int32} (g0 : Nat → Int32) : ∀ i q, foldN (fun (p : Nat) (g : Nat → Int32) => upd g p (v p)) g0 i q = if q < i then v q else g0 q
  | 0, q => by rw [if_neg (Nat.not_lt_zero q)]; rfl
  | i + 1, q => by
    show upd (foldN (fun (p : Nat) (g : Nat → Int32) => upd g p (v p)) g0 i) i (v i) q = _
    by_cases e : q = i
    · rw [e, pk_us, if_pos (by omega)]
    · rw [pk_un e, foldU g0 i q]
      by_cases e2 : q < i
      · rw [if_pos e2, if_pos (by omega)]
      · rw [if_neg e2, if_neg (by omega)]
def dC (c p : Nat) : Nat := c / 5 ^ p % 5
theorem dC_lt (c p : Nat) : dC c p < 5 := Nat.mod_lt _ (by decide)
def oC (c p : Nat) : Int := (dC c p : Int) - 2
theorem oC_R (c : Nat) : OuR (oC c) := fun p _ => by have := dC_lt c p; unfold oC; omega
theorem oC_0 {c p : Nat} : zI (oC c p) = 0 ↔ dC c p = 2 := by
  have := dC_lt c p
  rw [z_0, z_eq (by unfold oC; omega) (by omega)]
  unfold oC
  omega
def agB (P : Pce) (s : Evs) (o : Nat → Int) (a b : Nat) : Bool := decide (∀ x, x < b → a ≤ x → hrS P o x = s.2.2.2 x)
def ftB (P : Pce) (s : Evs) (c : Nat) : Bool := agB P s (oC c) s.2.1 s.1
def w1 (e : Nat) : Nat := if e = 2 then 4 else if e = 1 ∨ e = 3 then 2 else 1
def wtC (np c : Nat) : Nat := foldN (fun p w => w * w1 (dC c p)) 1 np
def fW (P : Pce) (s : Evs) (c : Nat) : Nat := if ftB P s c then wtC P.1 c else 0
def smF (g : Nat → Nat) (n : Nat) : Nat := foldN (fun c a => a + g c) 0 n
theorem smF_s (g : Nat → Nat) (n : Nat) : smF g (n + 1) = smF g n + g n := rfl
theorem cntP_s (p : Nat → Bool) (n : Nat) : cntP p (n + 1) = if p n then cntP p n + 1 else cntP p n := rfl
theorem w1_b (e : Nat) : 1 ≤ w1 e ∧ w1 e ≤ 4 := by unfold w1; split <;> (try split) <;> omega
theorem wtC_pos (c : Nat) : ∀ np, 0 < wtC np c
  | 0 => Nat.one_pos
  | np + 1 => Nat.mul_pos (wtC_pos c np) (w1_b _).1
theorem wtC_le (c : Nat) : ∀ np, wtC np c ≤ 4 ^ np
  | 0 => Nat.le_refl _
  | np + 1 => by
    show wtC np c * w1 (dC c np) ≤ 4 ^ np * 4
    exact Nat.mul_le_mul (wtC_le c np) (w1_b _).2
theorem p4 {np : Nat} (h : np ≤ 4) : 4 ^ np ≤ 256 := by
  rcases (show np = 0 ∨ np = 1 ∨ np = 2 ∨ np = 3 ∨ np = 4 by omega) with rfl | rfl | rfl | rfl | rfl <;> decide
theorem p5 {np : Nat} (h : np ≤ 4) : 5 ^ np ≤ 625 := by
  rcases (show np = 0 ∨ np = 1 ∨ np = 2 ∨ np = 3 ∨ np = 4 by omega) with rfl | rfl | rfl | rfl | rfl <;> decide
theorem fW_le {P : Pce} (hO : PcOK P) (s : Evs) (c : Nat) : fW P s c ≤ 256 := by
  have := wtC_le c P.1
  have := p4 hO.1
  unfold fW
  split <;> omega
def cntO (c np : Nat) : Nat := cntP (fun q => decide (¬ dC c q = 2)) np
def hvF (P : Pce) (s : Evs) (n : Nat) : Option Nat × Nat := foldN (fun c a => if a.2 < fW P s c then (some c, fW P s c) else a) (none, 0) n
theorem hvF_s (P : Pce) (s : Evs) (n : Nat) : hvF P s (n + 1) = if (hvF P s n).2 < fW P s n then (some n, fW P s n) else hvF P s n := rfl
theorem hvF_le {P : Pce} (hO : PcOK P) (s : Evs) : ∀ n, (hvF P s n).2 ≤ 256
  | 0 => by show (0 : Nat) ≤ 256; decide
  | n + 1 => by
    rw [hvF_s]
    split
    · exact fW_le hO s n
    · exact hvF_le hO s n
def wE (P : Pce) (s : Evs) (p e c : Nat) : Nat := if dC c p = e then fW P s c else 0
def ft0 (P : Pce) (s : Evs) (p c : Nat) : Bool := ftB P s c && decide (dC c p = 2)
def nobW (P : Pce) (s : Evs) (c : Nat) : Nat := if cntO c P.1 = 0 then fW P s c else 0
theorem fstN_s (p : Nat → Bool) (n : Nat) : fstN p (n + 1) = match fstN p n with
    | some i => some i
    | none => if p n then some n else none := rfl
theorem fst_stay {p : Nat → Bool} {n : Nat} (h : p n = false) : fstN p (n + 1) = fstN p n := by
  rw [fstN_s]
  cases fstN p n with
  | some i => rfl
  | none => show (if p n then some n else none) = none; rw [h]; rfl
theorem cnt_fst {p : Nat → Bool} : ∀ {n : Nat}, cntP p n = 0 ↔ fstN p n = none
  | 0 => ⟨fun _ => rfl, fun _ => rfl⟩
  | n + 1 => by
    have ih := cnt_fst (p := p) (n := n)
    rw [cntP_s, fstN_s]
    cases hp : p n with
    | true =>
      constructor
      · intro h; exact absurd h (by rw [if_pos rfl]; omega)
      · intro h
        cases hf : fstN p n with
        | some i => rw [hf] at h; cases h
        | none => rw [hf] at h; cases h
    | false =>
      rw [if_neg (by decide)]
      rw [ih]
      cases hf : fstN p n with
      | some i => exact ⟨fun h => (by cases h), fun h => (by cases h)⟩
      | none => exact ⟨fun _ => rfl, fun _ => rfl⟩
theorem digits : ∀ (n c c' : Nat), c < 5 ^ n → c' < 5 ^ n → (∀ p, p < n → dC c p = dC c' p) → c = c'
  | 0, c, c', h1, h2, _ => by rw [Nat.pow_zero] at h1 h2; omega
  | n + 1, c, c', h1, h2, h => by
    have e0 : c % 5 = c' % 5 := by
      have := h 0 (by omega)
      unfold dC at this
      rwa [Nat.pow_zero, Nat.div_one, Nat.div_one] at this
    have e1 : c / 5 = c' / 5 := digits n (c / 5) (c' / 5) (by rw [Nat.pow_succ] at h1; omega) (by rw [Nat.pow_succ] at h2; omega) (fun p hp => by
      have := h (p + 1) (by omega)
      unfold dC at this ⊢
      rw [Nat.div_div_eq_div_mul, Nat.div_div_eq_div_mul, ← Nat.pow_succ']
      exact this)
    omega
theorem cntP_zero {p : Nat → Bool} : ∀ {n : Nat}, cntP p n = 0 → ∀ i, i < n → p i = false
  | 0, _, i, hi => absurd hi (Nat.not_lt_zero i)
  | n + 1, h, i, hi => by
    rw [cntP_s] at h
    cases hp : p n with
    | true => rw [hp, if_pos rfl] at h; omega
    | false =>
      rw [hp, if_neg (by decide)] at h
      rcases Nat.lt_or_ge i n with q | q
      · exact cntP_zero h i q
      · rw [show i = n by omega]; exact hp
theorem cntO_one {np c c' : Nat} (h1 : c < 5 ^ np) (h2 : c' < 5 ^ np) (h3 : cntO c np = 0) (h4 : cntO c' np = 0) : c = c' :=
  digits np c c' h1 h2 (fun p hp => by
    have a := Decidable.of_not_not (of_decide_eq_false (cntP_zero h3 p hp))
    have b := Decidable.of_not_not (of_decide_eq_false (cntP_zero h4 p hp))
    rw [a, b])
theorem smF_zero {g : Nat → Nat} : ∀ {n : Nat}, (∀ i, i < n → g i = 0) → smF g n = 0
  | 0, _ => rfl
  | n + 1, h => by rw [smF_s, smF_zero (fun i hi => h i (by omega)), h n (by omega)]
theorem nob_0 {P : Pce} {s : Evs} {c : Nat} (hc : c < 5 ^ P.1) (h : cntO c P.1 = 0) : smF (nobW P s) c = 0 := smF_zero (fun i hi => if_neg (fun q => by
  have := cntO_one (show i < 5 ^ P.1 by omega) hc q h
  omega))
def BelI (P : Pce) (s : Evs) (n : Nat) (I : Nat → Nat → Int32) : Prop := I 36 5 = nI (hvF P s n).2 ∧ I 36 6 = nI (cntP (ftB P s) n) ∧ I 36 7 = oI (fstN (ftB P s) n) ∧ I 36 8 = oI (hvF P s n).1 ∧ I 36 9 = nI (smF (fW P s) n) ∧ I 36 10 = nI (smF (nobW P s) n) ∧ (∀ p, p < P.1 → ∀ e, e < 5 → I 38 (5 * p + e) = nI (smF (wE P s p e) n)) ∧ ∀ p, p < P.1 → I 39 p = nI (cntP (ft0 P s p) n)
theorem BelI.no {P : Pce} {s : Evs} {n : Nat} {I' : Nat → Nat → Int32} (h : BelI P s n I) (hf : ftB P s n = false) (h1 : I' 36 = I 36) (h2 : I' 38 = I 38) (h3 : I' 39 = I 39) : BelI P s (n + 1) I' := by
  have w0 : fW P s n = 0 := by unfold fW; rw [hf]; rfl
  refine ⟨?_, ?_, ?_, ?_, ?_, ?_, fun p hp e he => ?_, fun p hp => ?_⟩
  · rw [h1, hvF_s, w0, if_neg (Nat.not_lt_zero _)]; exact h.1
  · rw [h1, cntP_s, hf]; exact h.2.1
  · rw [h1, fst_stay hf]; exact h.2.2.1
  · rw [h1, hvF_s, w0, if_neg (Nat.not_lt_zero _)]; exact h.2.2.2.1
  · rw [h1, smF_s, w0]; exact h.2.2.2.2.1
  · rw [h1, smF_s, show nobW P s n = 0 by unfold nobW; rw [w0]; split <;> rfl]; exact h.2.2.2.2.2.1
  · rw [h2, smF_s, show wE P s p e n = 0 by unfold wE; rw [w0]; split <;> rfl]; exact h.2.2.2.2.2.2.1 p hp e he
  · rw [h3, cntP_s, show ft0 P s p n = false by unfold ft0; rw [hf]; rfl]; exact h.2.2.2.2.2.2.2 p hp
def EvP (P : Pce) (s : Evs) : Prop := s.1 ≤ P.2.1 ∧ ∀ p, P.1 ≤ p → s.2.2.1 p = 0
theorem EvP.step {P : Pce} {s : Evs} {d : Deed} (hR : EvP P s) (h : evOK P s d) : EvP P (evStep P s d) := by
  obtain ⟨k, p, w⟩ := d
  have hk := evOK_k h
  rcases hk with rfl | rfl | rfl | rfl
  · have h1 : s.1 < P.2.1 := h.1
    exact ⟨show s.1 + 1 ≤ P.2.1 by omega, hR.2⟩
  · have hp : p < P.1 := h.1
    refine ⟨hR.1, fun q hq => ?_⟩
    show upR s.2.2.1 p (s.2.2.1 p + w - 1) q = 0
    rw [upR_n (by omega)]; exact hR.2 q hq
  · have hp : p < P.1 := h.1
    refine ⟨hR.1, fun q hq => ?_⟩
    show upR s.2.2.1 p (s.2.2.1 w) q = 0
    rw [upR_n (by omega)]; exact hR.2 q hq
  · have hw : w < P.2.1 := h.2
    exact ⟨show w ≤ P.2.1 by omega, fun q hq => rfl⟩
theorem EvP.e {P : Pce} : EvP P evE := ⟨Nat.zero_le _, fun _ _ => rfl⟩
theorem EvP.run {P : Pce} : ∀ {ds : List Deed} {s : Evs}, EvP P s → evAll P s ds → EvP P (evRun P s ds)
  | [], _, h, _ => h
  | e :: ds, s, h, ha => EvP.run (ds := ds) (s := evStep P s e) (h.step ha.1) ha.2
theorem rem5 {a : Nat} (h : a < 2 ^ 31) : nI a - nI a / 5 * 5 = nI (a % 5) := pk_rem (d := 5) h (by decide) (by decide)
theorem div5 {a : Nat} (h : a < 2 ^ 31) : nI a / 5 = nI (a / 5) := pk_div (d := 5) h (by decide) (by decide)
theorem abs_e : ∀ e : Nat, e < 5 → (4 : Int32) >>> ((if 0 ≤ zI ((e : Int) - 2) then zI ((e : Int) - 2) else 0 - zI ((e : Int) - 2)) &&& 31) = nI (w1 e) := by decide +kernel
theorem abs_w {c p : Nat} : (4 : Int32) >>> ((if 0 ≤ zI (oC c p) then zI (oC c p) else 0 - zI (oC c p)) &&& 31) = nI (w1 (dC c p)) := abs_e (dC c p) (dC_lt c p)
theorem ixw {c p : Nat} : nI p * 5 + zI (oC c p) + 2 = nI (5 * p + dC c p) := by
  rw [show (5 : Int32) = nI 5 from rfl, pk_mul, nI_z, z_add, show (2 : Int32) = zI 2 from rfl, z_add, nI_z]
  congr 1
  unfold oC
  omega
theorem ct_allOuts {np : Nat} (h4 : np ≤ 4) : Ct X d 66 M_X10_allOuts 66 [.int (nI np)] (I, J, rf0) (RI (fun y9 m => y9 = nI (5 ^ np) ∧ m = (I, J, rf0))) := by
  show Go _ _ _ _ _ _ [_, _, _] _ _ _
  refine g_iconst (v := 1) dX10_allOuts_0 (by decide) ?_
  refine g_istore_n dX10_allOuts_1 (by decide) ?_
  show Go _ _ _ _ _ _ [_, _, _] _ _ _
  refine g_iconst (v := 0) dX10_allOuts_2 (by decide) ?_
  refine g_istore_n dX10_allOuts_3 (by decide) ?_
  show Go _ _ _ _ _ _ [_, _, _] _ _ _
  refine go_ix np (fun p => Go X d 66 M_X10_allOuts 66 4 [.int (nI np), .int (nI (5 ^ p)), .int (nI p)] [] (I, J, rf0) (RI (fun y9 m => y9 = nI (5 ^ np) ∧ m = (I, J, rf0)))) (fun p hp kk => ?_) ?_
  · skip
    refine g_iload_n dX10_allOuts_4 rfl ?_
    refine g_iload_n dX10_allOuts_5 rfl ?_
    refine g_icmp_ge (tgt := 19) dX10_allOuts_6 (by decide) (fun c6 => ?_) (fun c6 => ?_)
    · exact absurd (nI_lt hp (by omega)) (Int32.not_lt.mpr c6)
    · skip
      refine g_iload_n dX10_allOuts_9 rfl ?_
      refine g_iconst (v := 5) dX10_allOuts_10 (by decide) ?_
      refine g_imul dX10_allOuts_11 ?_
      refine g_istore_n dX10_allOuts_12 (by decide) ?_
      show Go _ _ _ _ _ _ [_, _, _] _ _ _
      refine g_iinc dX10_allOuts_13 rfl (by decide) ?_
      show Go _ _ _ _ _ _ [_, _, _] _ _ _
      refine g_goto (tgt := 4) dX10_allOuts_16 (by decide) ?_
      rw [nI_inc, show (5 : Int32) = nI 5 from rfl, pk_mul]
      exact kk
  · skip
    refine g_iload_n dX10_allOuts_4 rfl ?_
    refine g_iload_n dX10_allOuts_5 rfl ?_
    refine g_icmp_ge (tgt := 19) dX10_allOuts_6 (by decide) (fun c6 => ?_) (fun c6 => ?_)
    · skip
      refine g_iload_n dX10_allOuts_19 rfl ?_
      refine g_iret dX10_allOuts_20 (fun ty h => by cases h; rfl) ?_
      exact ⟨rfl, rfl⟩
    · exact absurd (Int32.le_refl _) c6
theorem ct_spell {c k : Nat} (hs : shp k = (1, 0, 4)) (hk : k < 66) (hc : c < 625) : Ct X d 66 M_X10_spell 66 [.int (nI c), .ref k] (I, J, rf0) (RV (fun m => ∃ g, m = (upR I k g, J, rf0) ∧ ∀ p, p < 4 → g p = zI (oC c p))) := by
  show Go _ _ _ _ _ _ [_, _, _, _] _ _ _
  refine g_iload_n dX10_spell_0 rfl ?_
  refine g_istore_n dX10_spell_1 (by decide) ?_
  show Go _ _ _ _ _ _ [_, _, _, _] _ _ _
  refine g_iconst (v := 0) dX10_spell_2 (by decide) ?_
  refine g_istore_n dX10_spell_3 (by decide) ?_
  show Go _ _ _ _ _ _ [_, _, _, _] _ _ _
  rw [id_cell (I := I) k]
  refine (fun (key : Go X d 66 M_X10_spell 66 4 [.int (nI c), .ref k, .int (nI (c / 5 ^ 0)), .int (nI 0)] [] (upR I k (I k), J, rf0) (RV (fun m => ∃ g, m = (upR I k g, J, rf0) ∧ ∀ p, p < 4 → g p = zI (oC c p)))) => ?_) ?_
  · rw [Nat.pow_zero, Nat.div_one] at key; exact key
  refine go_for (fun (p : Nat) (g : Nat → Int32) => upd g p (zI (oC c p))) (I k) 4 (fun p g => Go X d 66 M_X10_spell 66 4 [.int (nI c), .ref k, .int (nI (c / 5 ^ p)), .int (nI p)] [] (upR I k g, J, rf0) (RV (fun m => ∃ g, m = (upR I k g, J, rf0) ∧ ∀ p, p < 4 → g p = zI (oC c p)))) (fun p hp kk => ?_) ?_
  · have hlt : c / 5 ^ p < 2 ^ 31 := Nat.lt_of_le_of_lt (Nat.div_le_self _ _) (by omega)
    refine g_iload_n dX10_spell_4 rfl ?_
    refine g_aload_n dX10_spell_5 rfl ?_
    refine t_alen dX10_spell_6 hs hk ?_
    refine g_icmp_ge (tgt := 28) dX10_spell_7 (by decide) (fun c7 => ?_) (fun c7 => ?_)
    · exact absurd (nI_lt hp (by decide)) (Int32.not_lt.mpr c7)
    · skip
      refine g_aload_n dX10_spell_10 rfl ?_
      refine g_iload_n dX10_spell_11 rfl ?_
      refine g_iload_n dX10_spell_12 rfl ?_
      refine g_iconst (v := 5) dX10_spell_13 (by decide) ?_
      refine g_irem dX10_spell_14 (by decide) ?_
      rw [rem5 hlt]
      refine g_iconst (v := 2) dX10_spell_15 (by decide) ?_
      refine g_isub dX10_spell_16 ?_
      rw [show nI (c / 5 ^ p % 5) - 2 = zI (oC c p) by rw [show (2 : Int32) = zI 2 from rfl, nI_z, z_sub]; rfl]
      refine t_iast dX10_spell_17 hs hk (in_nI hp (by decide)) ?_
      refine g_iload_n dX10_spell_18 rfl ?_
      refine g_iconst (v := 5) dX10_spell_19 (by decide) ?_
      refine g_idiv dX10_spell_20 (by decide) ?_
      rw [div5 hlt, Nat.div_div_eq_div_mul, ← Nat.pow_succ]
      refine g_istore_n dX10_spell_21 (by decide) ?_
      show Go _ _ _ _ _ _ [_, _, _, _] _ _ _
      refine g_iinc dX10_spell_22 rfl (by decide) ?_
      show Go _ _ _ _ _ _ [_, _, _, _] _ _ _
      refine g_goto (tgt := 4) dX10_spell_25 (by decide) ?_
      rw [nI_inc, cl_nI (by omega), up_up, upR_s]
      exact kk
  · skip
    refine g_iload_n dX10_spell_4 rfl ?_
    refine g_aload_n dX10_spell_5 rfl ?_
    refine t_alen dX10_spell_6 hs hk ?_
    refine g_icmp_ge (tgt := 28) dX10_spell_7 (by decide) (fun c7 => ?_) (fun c7 => ?_)
    · skip
      refine g_vret dX10_spell_28 ?_
      exact ⟨_, rfl, fun p hp => by rw [foldU, if_pos hp]⟩
    · exact absurd (Int32.le_refl _) c7
theorem ct_agrees {P : Pce} {s : Evs} (hP : PcC P I) (hO : PcOK P) (hE : EsC s I) (hR : EvR s) (hP2 : EvP P s) {o : Nat → Int} {a b : Nat} (hoR : OuR o) (ho : OuV 37 o I) (ha : s.2.1 ≤ a) (hb : b ≤ s.1) (hab : a ≤ b) : Ct X (d + 3) 66 M_X0_agrees 66 [.ref 36, .int (nI a), .int (nI b)] (I, J, rf0) (RI (fun y9 m => y9 = bI (agB P s o a b) ∧ m = (I, J, rf0))) := by
  have hr14 := hR.1
  have hp1 := hP2.1
  show Go _ _ _ _ _ _ [_, _, _, _] _ _ _
  refine g_iload_n dX0_agrees_0 rfl ?_
  refine g_istore_n dX0_agrees_1 (by decide) ?_
  show Go _ _ _ _ _ _ [_, _, _, _] _ _ _
  refine go_ix (b - a) (fun i => (∀ x, x < a + i → a ≤ x → hrS P o x = s.2.2.2 x) → Go X (d + 3) 66 M_X0_agrees 66 2 [.ref 36, .int (nI a), .int (nI b), .int (nI (a + i))] [] (I, J, rf0) (RI (fun y9 m => y9 = bI (agB P s o a b) ∧ m = (I, J, rf0)))) (fun i hi kk hn => ?_) (fun hn => ?_) (fun x h1 h2 => absurd h1 (by omega))
  · skip
    refine g_iload_n dX0_agrees_2 rfl ?_
    refine g_iload_n dX0_agrees_3 rfl ?_
    refine g_icmp_ge (tgt := 38) dX0_agrees_4 (by decide) (fun c4 => ?_) (fun c4 => ?_)
    · exact absurd (nI_lt (show a + i < b by omega) (by omega)) (Int32.not_lt.mpr c4)
    · skip
      refine g_aload_n dX0_agrees_7 rfl ?_
      refine t_getR dX0_agrees_8 fl_X0_21 rfl (by decide) rfl (by decide) rfl ?_
      refine g_iload_n dX0_agrees_11 rfl ?_
      refine g_aload_n dX0_agrees_12 rfl ?_
      refine t_getR dX0_agrees_13 fl_X0_9 rfl (by decide) rfl (by decide) rfl ?_
      refine g_callVi dX0_agrees_16 ln_X0_83 ⟨_, rfl⟩ rfl (by decide) ⟨_, _, rfl⟩ rfl (Nat.le_of_ble_eq_true rfl) (Nat.le_of_ble_eq_true rfl) (ct_heardOn (x := a + i) hP hO (by omega) hoR (OA.of ho rfl (by decide))) rfl (fun r16 m16 h16 => ?_)
      obtain ⟨rfl, rfl⟩ := h16
      refine g_aload_n dX0_agrees_19 rfl ?_
      refine t_getR dX0_agrees_20 fl_X0_25 rfl (by decide) rfl (by decide) rfl ?_
      refine g_iload_n dX0_agrees_23 rfl ?_
      refine g_callVi dX0_agrees_24 ln_X0_87 ⟨_, rfl⟩ rfl (by decide) ⟨_, _, rfl⟩ rfl (Nat.le_of_ble_eq_true rfl) (Nat.le_of_ble_eq_true rfl) (ct_heardOf (x := a + i) hE hR (by omega) (by omega)) rfl (fun r24 m24 h24 => ?_)
      obtain ⟨rfl, rfl⟩ := h24
      refine g_icmp_eq (tgt := 32) dX0_agrees_27 (by decide) (fun c27 => ?_) (fun c27 => ?_)
      · skip
        refine g_iinc dX0_agrees_32 rfl (by decide) ?_
        show Go _ _ _ _ _ _ [_, _, _, _] _ _ _
        refine g_goto (tgt := 2) dX0_agrees_35 (by decide) ?_
        rw [nI_inc, Nat.add_assoc]
        exact kk (fun x h1 h2 => by
          rcases Nat.lt_or_ge x (a + i) with q | q
          · exact hn x q h2
          · rw [show x = a + i by omega]
            have h64 := hrS_lt hO o (a + i)
            have h65 := hR.2.2.2 (a + i)
            exact (nI_eq (by omega) (by omega)).mp c27)
      · skip
        refine g_iconst (v := 0) dX0_agrees_30 (by decide) ?_
        refine g_iret dX0_agrees_31 (fun ty h => by cases h; rfl) ?_
        refine ⟨?_, rfl⟩
        unfold agB
        rw [decide_eq_false (fun q => c27 (by rw [q (a + i) (by omega) (by omega)]))]
        rfl
  · skip
    refine g_iload_n dX0_agrees_2 rfl ?_
    refine g_iload_n dX0_agrees_3 rfl ?_
    refine g_icmp_ge (tgt := 38) dX0_agrees_4 (by decide) (fun c4 => ?_) (fun c4 => ?_)
    · skip
      refine g_iconst (v := 1) dX0_agrees_38 (by decide) ?_
      refine g_iret dX0_agrees_39 (fun ty h => by cases h; rfl) ?_
      refine ⟨?_, rfl⟩
      unfold agB
      rw [decide_eq_true (fun x h1 h2 => hn x (by omega) h2)]
      rfl
    · exact absurd (nI_le (show b ≤ a + (b - a) by omega) (by omega)) c4
theorem ct_weigh {P : Pce} {s : Evs} {c : Nat} (hP : PcC P I) (hO : PcOK P) (hc : c < 5 ^ P.1) (hB : BelI P s c I) (ho : OuV 37 (oC c) I) (hft : ftB P s c = true) : Ct X (d + 1) 66 M_X0_weigh 66 [.ref 36, .int (nI c)] (I, J, rf0) (RV (fun m => ∃ I', m = (I', J, rf0) ∧ Fr [36, 38, 39] I I' ∧ BelI P s (c + 1) I')) := by
  have h4 := hO.1
  have h5 := p5 h4
  have hw9 := wtC_le c P.1
  have hw8 := p4 h4
  have hw0 : fW P s c = wtC P.1 c := by unfold fW; rw [hft]; rfl
  have hcnt := cntP_le (ftB P s) c
  have hhv := hvF_le hO s c
  show Go _ _ _ _ _ _ [_, _, _, _, _] _ _ _
  refine g_iconst (v := 1) dX0_weigh_0 (by decide) ?_
  refine g_istore_n dX0_weigh_1 (by decide) ?_
  show Go _ _ _ _ _ _ [_, _, _, _, _] _ _ _
  refine g_iconst (v := 0) dX0_weigh_2 (by decide) ?_
  refine g_istore_n dX0_weigh_3 (by decide) ?_
  show Go _ _ _ _ _ _ [_, _, _, _, _] _ _ _
  refine g_iconst (v := 0) dX0_weigh_4 (by decide) ?_
  refine g_istore dX0_weigh_5 (by decide) ?_
  show Go _ _ _ _ _ _ [_, _, _, _, _] _ _ _
  refine go_ix P.1 (fun p => Go X (d + 1) 66 M_X0_weigh 66 7 [.ref 36, .int (nI c), .int (nI (wtC p c)), .int (nI (cntO c p)), .int (nI p)] [] (I, J, rf0) (RV (fun m => ∃ I', m = (I', J, rf0) ∧ Fr [36, 38, 39] I I' ∧ BelI P s (c + 1) I'))) (fun p hp kk => ?_) ?_
  · skip
    refine g_iload dX0_weigh_7 rfl ?_
    refine g_aload_n dX0_weigh_9 rfl ?_
    refine t_getR dX0_weigh_10 fl_X0_21 rfl (by decide) rfl (by decide) rfl ?_
    refine t_getI dX0_weigh_13 fl_X0_54 rfl (by decide) rfl (by decide) ?_
    rw [hP.1]
    refine g_icmp_ge (tgt := 53) dX0_weigh_16 (by decide) (fun c16 => ?_) (fun c16 => ?_)
    · exact absurd (nI_lt hp (by omega)) (Int32.not_lt.mpr c16)
    · skip
      refine g_iload_n dX0_weigh_19 rfl ?_
      refine g_iconst (v := 4) dX0_weigh_20 (by decide) ?_
      refine g_aload_n dX0_weigh_21 rfl ?_
      refine t_getR dX0_weigh_22 fl_X0_9 rfl (by decide) rfl (by decide) rfl ?_
      refine g_iload dX0_weigh_25 rfl ?_
      refine t_iald dX0_weigh_27 rfl (by decide) (in_nI (by omega) (by decide)) ?_
      rw [cl_nI (by omega), ho p (by omega)]
      refine g_mabs dX0_weigh_28 mm_X0_90 (Nat.le_of_ble_eq_true rfl) ?_
      refine g_ishr dX0_weigh_31 ?_
      rw [abs_w]
      refine g_imul dX0_weigh_32 ?_
      rw [pk_mul]
      refine g_istore_n dX0_weigh_33 (by decide) ?_
      show Go _ _ _ _ _ _ [_, _, _, _, _] _ _ _
      refine g_aload_n dX0_weigh_34 rfl ?_
      refine t_getR dX0_weigh_35 fl_X0_9 rfl (by decide) rfl (by decide) rfl ?_
      refine g_iload dX0_weigh_38 rfl ?_
      refine t_iald dX0_weigh_40 rfl (by decide) (in_nI (by omega) (by decide)) ?_
      rw [cl_nI (by omega), ho p (by omega)]
      refine g_if_eq (tgt := 47) dX0_weigh_41 (by decide) (fun c41 => ?_) (fun c41 => ?_)
      · skip
        refine g_iinc dX0_weigh_47 rfl (by decide) ?_
        show Go _ _ _ _ _ _ [_, _, _, _, _] _ _ _
        refine g_goto (tgt := 7) dX0_weigh_50 (by decide) ?_
        rw [nI_inc]
        first
          | (rw [nI_inc]
             have h0 : ¬ dC c p = 2 := fun q => c41 (oC_0.mpr q)
             rw [show cntO c p + 1 = cntO c (p + 1) by unfold cntO; rw [cntP_s, decide_eq_true h0]; rfl]
             exact kk)
          | (have h0 : dC c p = 2 := oC_0.mp c41
             rw [show cntO c p = cntO c (p + 1) by unfold cntO; rw [cntP_s, decide_eq_false (not_not_intro h0)]; rfl]
             exact kk)
          | fail "no way"
      · skip
        refine g_iinc dX0_weigh_44 rfl (by decide) ?_
        show Go _ _ _ _ _ _ [_, _, _, _, _] _ _ _
        refine g_iinc dX0_weigh_47 rfl (by decide) ?_
        show Go _ _ _ _ _ _ [_, _, _, _, _] _ _ _
        refine g_goto (tgt := 7) dX0_weigh_50 (by decide) ?_
        rw [nI_inc]
        first
          | (rw [nI_inc]
             have h0 : ¬ dC c p = 2 := fun q => c41 (oC_0.mpr q)
             rw [show cntO c p + 1 = cntO c (p + 1) by unfold cntO; rw [cntP_s, decide_eq_true h0]; rfl]
             exact kk)
          | (have h0 : dC c p = 2 := oC_0.mp c41
             rw [show cntO c p = cntO c (p + 1) by unfold cntO; rw [cntP_s, decide_eq_false (not_not_intro h0)]; rfl]
             exact kk)
          | fail "no way"
  · skip
    refine g_iload dX0_weigh_7 rfl ?_
    refine g_aload_n dX0_weigh_9 rfl ?_
    refine t_getR dX0_weigh_10 fl_X0_21 rfl (by decide) rfl (by decide) rfl ?_
    refine t_getI dX0_weigh_13 fl_X0_54 rfl (by decide) rfl (by decide) ?_
    rw [hP.1]
    refine g_icmp_ge (tgt := 53) dX0_weigh_16 (by decide) (fun c16 => ?_) (fun c16 => ?_)
    · skip
      refine g_aload_n dX0_weigh_53 rfl ?_
      refine t_getI dX0_weigh_54 fl_X0_29 rfl (by decide) rfl (by decide) ?_
      rw [hB.2.1]
      refine g_if_ne (tgt := 65) dX0_weigh_57 (by decide) (fun c57 => ?_) (fun c57 => ?_)
      · skip
        refine g_abs (fun I1 => Fr [36] I I1 ∧ (∀ j, j ≠ 7 → I1 36 j = I 36 j) ∧ I1 36 7 = oI (fstN (ftB P s) (c + 1))) (by
          first
            | (have h0 : cntP (ftB P s) c = 0 := (nI_eq (by omega) (by decide)).mp (show nI (cntP (ftB P s) c) = nI 0 from c57)
               refine ⟨Fr.rf.up (by decide), fun j hj => by rw [upR_s, pk_un hj], ?_⟩
               rw [upR_s, pk_us, fstN_s, cnt_fst.mp h0]
               show nI c = oI (if ftB P s c then some c else none)
               rw [hft]; rfl)
            | (have h0 : ¬ cntP (ftB P s) c = 0 := fun q => c57 (by rw [q]; rfl)
               refine ⟨Fr.rf, fun j hj => rfl, ?_⟩
               rw [hB.2.2.1, fstN_s]
               cases hh : fstN (ftB P s) c with
               | some i => rfl
               | none => exact absurd (cnt_fst.mpr hh) h0)) (fun I1 h1 => ?_)
        refine g_aload_n dX0_weigh_65 rfl ?_
        refine g_dup dX0_weigh_66 rfl ?_
        refine t_getI dX0_weigh_67 fl_X0_29 rfl (by decide) rfl (by decide) ?_
        rw [h1.2.1 6 (by decide), hB.2.1]
        refine g_iconst (v := 1) dX0_weigh_70 (by decide) ?_
        refine g_iadd dX0_weigh_71 ?_
        rw [nI_1]
        refine t_putI dX0_weigh_72 fl_X0_29 rfl (by decide) rfl (by decide) ?_
        refine g_aload_n dX0_weigh_75 rfl ?_
        refine g_dup dX0_weigh_76 rfl ?_
        refine t_getI dX0_weigh_77 fl_X0_42 rfl (by decide) rfl (by decide) ?_
        rw [upR_s, pk_un (by decide), h1.2.1 9 (by decide), hB.2.2.2.2.1]
        refine g_iload_n dX0_weigh_80 rfl ?_
        refine g_iadd dX0_weigh_81 ?_
        rw [nI_add]
        refine t_putI dX0_weigh_82 fl_X0_42 rfl (by decide) rfl (by decide) ?_
        refine g_iload_n dX0_weigh_85 rfl ?_
        refine g_if_ne (tgt := 94) dX0_weigh_86 (by decide) (fun c86 => ?_) (fun c86 => ?_)
        · skip
          refine g_abs (fun I2 => Fr [36] I I2 ∧ I2 36 5 = I 36 5 ∧ I2 36 8 = I 36 8 ∧ I2 36 7 = oI (fstN (ftB P s) (c + 1)) ∧ I2 36 6 = nI (cntP (ftB P s) (c + 1)) ∧ I2 36 9 = nI (smF (fW P s) (c + 1)) ∧ I2 36 10 = nI (smF (nobW P s) (c + 1))) (by
            have e6 : cntP (ftB P s) (c + 1) = cntP (ftB P s) c + 1 := by rw [cntP_s, hft]; rfl
            have e9 : smF (fW P s) (c + 1) = smF (fW P s) c + wtC P.1 c := by rw [smF_s, hw0]
            rw [e6, e9]
            first
              | (have h0 : cntO c P.1 = 0 := (nI_eq (by have := cntP_le (fun q => decide (¬ dC c q = 2)) P.1; unfold cntO; omega) (by decide)).mp (show nI (cntO c P.1) = nI 0 from c86)
                 refine ⟨((h1.1.up (by decide)).up (by decide)).up (by decide), ?_, ?_, ?_, ?_, ?_, ?_⟩
                 · rw [upR_s, pk_un (by decide), upR_s, pk_un (by decide), upR_s, pk_un (by decide)]; exact h1.2.1 5 (by decide)
                 · rw [upR_s, pk_un (by decide), upR_s, pk_un (by decide), upR_s, pk_un (by decide)]; exact h1.2.1 8 (by decide)
                 · rw [upR_s, pk_un (by decide), upR_s, pk_un (by decide), upR_s, pk_un (by decide)]; exact h1.2.2
                 · rw [upR_s, pk_un (by decide), upR_s, pk_un (by decide), upR_s, pk_us]
                 · rw [upR_s, pk_un (by decide), upR_s, pk_us]
                 · rw [upR_s, pk_us, smF_s, nob_0 hc h0, show nobW P s c = wtC P.1 c by unfold nobW; rw [if_pos h0, hw0], Nat.zero_add])
              | (have h0 : ¬ cntO c P.1 = 0 := fun q => c86 (by show nI (cntO c P.1) = 0; rw [q]; rfl)
                 refine ⟨(h1.1.up (by decide)).up (by decide), ?_, ?_, ?_, ?_, ?_, ?_⟩
                 · rw [upR_s, pk_un (by decide), upR_s, pk_un (by decide)]; exact h1.2.1 5 (by decide)
                 · rw [upR_s, pk_un (by decide), upR_s, pk_un (by decide)]; exact h1.2.1 8 (by decide)
                 · rw [upR_s, pk_un (by decide), upR_s, pk_un (by decide)]; exact h1.2.2
                 · rw [upR_s, pk_un (by decide), upR_s, pk_us]
                 · rw [upR_s, pk_us]
                 · rw [upR_s, pk_un (by decide), upR_s, pk_un (by decide), h1.2.1 10 (by decide), hB.2.2.2.2.2.1, smF_s, show nobW P s c = 0 from if_neg h0]; rfl)) (fun I2 h2 => ?_)
          refine g_iload_n dX0_weigh_94 rfl ?_
          refine g_aload_n dX0_weigh_95 rfl ?_
          refine t_getI dX0_weigh_96 fl_X0_39 rfl (by decide) rfl (by decide) ?_
          rw [h2.2.1, hB.1]
          refine g_icmp_le (tgt := 112) dX0_weigh_99 (by decide) (fun c99 => ?_) (fun c99 => ?_)
          · skip
            refine g_abs (fun I4 => Fr [36] I I4 ∧ I4 36 5 = nI (hvF P s (c + 1)).2 ∧ I4 36 8 = oI (hvF P s (c + 1)).1 ∧ I4 36 7 = oI (fstN (ftB P s) (c + 1)) ∧ I4 36 6 = nI (cntP (ftB P s) (c + 1)) ∧ I4 36 9 = nI (smF (fW P s) (c + 1)) ∧ I4 36 10 = nI (smF (nobW P s) (c + 1))) (by
              rw [hvF_s, hw0]
              first
                | (have h0 : ¬ (hvF P s c).2 < wtC P.1 c := fun q => absurd (nI_lt q (by omega)) (Int32.not_lt.mpr c99)
                   rw [if_neg h0]
                   exact ⟨h2.1, h2.2.1.trans hB.1, h2.2.2.1.trans hB.2.2.2.1, h2.2.2.2⟩)
                | (have h0 : (hvF P s c).2 < wtC P.1 c := (nI_ltI (by omega) (by omega)).mp (Int32.not_le.mp c99)
                   rw [if_pos h0]
                   refine ⟨(h2.1.up (by decide)).up (by decide), ?_, ?_, ?_, ?_, ?_, ?_⟩
                   · rw [upR_s, pk_un (by decide), upR_s, pk_us]
                   · rw [upR_s, pk_us]; rfl
                   · rw [upR_s, pk_un (by decide), upR_s, pk_un (by decide)]; exact h2.2.2.2.1
                   · rw [upR_s, pk_un (by decide), upR_s, pk_un (by decide)]; exact h2.2.2.2.2.1
                   · rw [upR_s, pk_un (by decide), upR_s, pk_un (by decide)]; exact h2.2.2.2.2.2.1
                   · rw [upR_s, pk_un (by decide), upR_s, pk_un (by decide)]; exact h2.2.2.2.2.2.2)) (fun I4 h4b => ?_)
            refine g_iconst (v := 0) dX0_weigh_112 (by decide) ?_
            refine g_istore dX0_weigh_113 (by decide) ?_
            show Go _ _ _ _ _ _ [_, _, _, _, _] _ _ _
            refine go_mem (fun p I5 => Fr [38, 39] I4 I5 ∧ (∀ q, q < P.1 → ∀ e, e < 5 → I5 38 (5 * q + e) = nI (smF (wE P s q e) (if q < p then c + 1 else c))) ∧ ∀ q, q < P.1 → I5 39 q = nI (cntP (ft0 P s q) (if q < p then c + 1 else c))) P.1 (fun p I5 => Go X (d + 1) 66 M_X0_weigh 66 115 [.ref 36, .int (nI c), .int (nI (wtC P.1 c)), .int (nI (cntO c P.1)), .int (nI p)] [] (I5, J, rf0) (RV (fun m => ∃ I', m = (I', J, rf0) ∧ Fr [36, 38, 39] I I' ∧ BelI P s (c + 1) I'))) (fun p I5 hp h9 kk => ?_) (fun I5 h9 => ?_) _ ?_
            · skip
              refine g_iload dX0_weigh_115 rfl ?_
              refine g_aload_n dX0_weigh_117 rfl ?_
              refine t_getR dX0_weigh_118 fl_X0_21 rfl (by decide) rfl (by decide) rfl ?_
              refine t_getI dX0_weigh_121 fl_X0_54 rfl (by decide) rfl (by decide) ?_
              rw [h9.1 22 (by decide), h4b.1 22 (by decide), hP.1]
              refine g_icmp_ge (tgt := 177) dX0_weigh_124 (by decide) (fun c124 => ?_) (fun c124 => ?_)
              · exact absurd (nI_lt hp (by omega)) (Int32.not_lt.mpr c124)
              · skip
                refine g_aload_n dX0_weigh_127 rfl ?_
                refine t_getR dX0_weigh_128 fl_X0_15 rfl (by decide) rfl (by decide) rfl ?_
                refine g_iload dX0_weigh_131 rfl ?_
                refine g_iconst (v := 5) dX0_weigh_133 (by decide) ?_
                refine g_imul dX0_weigh_134 ?_
                refine g_aload_n dX0_weigh_135 rfl ?_
                refine t_getR dX0_weigh_136 fl_X0_9 rfl (by decide) rfl (by decide) rfl ?_
                refine g_iload dX0_weigh_139 rfl ?_
                refine t_iald dX0_weigh_141 rfl (by decide) (in_nI (by omega) (by decide)) ?_
                rw [cl_nI (by omega), h9.1 37 (by decide), h4b.1 37 (by decide), ho p (by omega)]
                refine g_iadd dX0_weigh_142 ?_
                refine g_iconst (v := 2) dX0_weigh_143 (by decide) ?_
                refine g_iadd dX0_weigh_144 ?_
                refine g_dup2 dX0_weigh_145 rfl rfl ?_
                refine t_iald dX0_weigh_146 rfl (by decide) (by rw [ixw]; exact in_nI (by have := dC_lt c p; omega) (by decide)) ?_
                rw [ixw, cl_nI (by have := dC_lt c p; omega)]
                refine g_iload_n dX0_weigh_147 rfl ?_
                refine g_iadd dX0_weigh_148 ?_
                refine t_iast dX0_weigh_149 rfl (by decide) (in_nI (by have := dC_lt c p; omega) (by decide)) ?_
                rw [show I5 38 (5 * p + dC c p) = nI (smF (wE P s p (dC c p)) c) by rw [h9.2.1 p (by omega) (dC c p) (dC_lt c p), if_neg (by omega)], nI_add, cl_nI (by have := dC_lt c p; omega)]
                refine g_abs (fun I6 => Fr [38, 39] I4 I6 ∧ (∀ q, q < P.1 → ∀ e, e < 5 → I6 38 (5 * q + e) = nI (smF (wE P s q e) (if q < p + 1 then c + 1 else c))) ∧ I6 39 = I5 39) ⟨h9.1.up (by decide), fun q hq e he => ?_, by rw [upR_n (by decide)]⟩ (fun I6 h6 => ?_)
                · have hd9 := dC_lt c p
                  rw [upR_s]
                  by_cases e1 : q = p
                  · subst e1
                    rw [if_pos (by omega)]
                    by_cases e2 : e = dC c q
                    · rw [e2, pk_us, smF_s, show wE P s q (dC c q) c = wtC P.1 c by unfold wE; rw [if_pos rfl, hw0]]
                    · rw [pk_un (by omega), h9.2.1 q hq e he, if_neg (by omega), smF_s, show wE P s q e c = 0 from if_neg (fun z => e2 z.symm)]; rfl
                  · rw [pk_un (by omega), h9.2.1 q hq e he]
                    by_cases e2 : q < p
                    · rw [if_pos e2, if_pos (by omega)]
                    · rw [if_neg e2, if_neg (by omega)]
                refine g_aload_n dX0_weigh_150 rfl ?_
                refine t_getR dX0_weigh_151 fl_X0_9 rfl (by decide) rfl (by decide) rfl ?_
                refine g_iload dX0_weigh_154 rfl ?_
                refine t_iald dX0_weigh_156 rfl (by decide) (in_nI (by omega) (by decide)) ?_
                rw [cl_nI (by omega), h6.1 37 (by decide), h4b.1 37 (by decide), ho p (by omega)]
                refine g_if_ne (tgt := 171) dX0_weigh_157 (by decide) (fun c157 => ?_) (fun c157 => ?_)
                · skip
                  refine g_iinc dX0_weigh_171 rfl (by decide) ?_
                  show Go _ _ _ _ _ _ [_, _, _, _, _] _ _ _
                  refine g_goto (tgt := 115) dX0_weigh_174 (by decide) ?_
                  rw [nI_inc]
                  first
                    | (rw [cl_nI (by omega), h6.2.2]
                       have h0 : dC c p = 2 := oC_0.mp c157
                       refine kk _ ⟨h6.1.up (by decide), fun q hq e he => by rw [upR_n (by decide)]; exact h6.2.1 q hq e he, fun q hq => ?_⟩
                       rw [upR_s]
                       by_cases e1 : q = p
                       · subst e1
                         rw [pk_us, if_pos (by omega), cntP_s, show ft0 P s q c = true by unfold ft0; rw [hft, decide_eq_true h0]; rfl]; rfl
                       · rw [pk_un e1, h9.2.2 q hq]
                         by_cases e2 : q < p
                         · rw [if_pos e2, if_pos (by omega)]
                         · rw [if_neg e2, if_neg (by omega)])
                    | (have h0 : ¬ dC c p = 2 := fun q => c157 (oC_0.mpr q)
                       refine kk _ ⟨h6.1, h6.2.1, fun q hq => ?_⟩
                       rw [h6.2.2, h9.2.2 q hq]
                       by_cases e1 : q = p
                       · subst e1
                         rw [if_neg (by omega), if_pos (by omega), cntP_s, show ft0 P s q c = false by unfold ft0; rw [decide_eq_false h0, Bool.and_false]]; rfl
                       · by_cases e2 : q < p
                         · rw [if_pos e2, if_pos (by omega)]
                         · rw [if_neg e2, if_neg (by omega)])
                    | fail "no way"
                · skip
                  refine g_aload_n dX0_weigh_160 rfl ?_
                  refine t_getR dX0_weigh_161 fl_X0_18 rfl (by decide) rfl (by decide) rfl ?_
                  refine g_iload dX0_weigh_164 rfl ?_
                  refine g_dup2 dX0_weigh_166 rfl rfl ?_
                  refine t_iald dX0_weigh_167 rfl (by decide) (in_nI (by omega) (by decide)) ?_
                  rw [cl_nI (by omega), h6.2.2, h9.2.2 p (by omega), if_neg (by omega)]
                  refine g_iconst (v := 1) dX0_weigh_168 (by decide) ?_
                  refine g_iadd dX0_weigh_169 ?_
                  rw [nI_1]
                  refine t_iast dX0_weigh_170 rfl (by decide) (in_nI (by omega) (by decide)) ?_
                  refine g_iinc dX0_weigh_171 rfl (by decide) ?_
                  show Go _ _ _ _ _ _ [_, _, _, _, _] _ _ _
                  refine g_goto (tgt := 115) dX0_weigh_174 (by decide) ?_
                  rw [nI_inc]
                  first
                    | (rw [cl_nI (by omega), h6.2.2]
                       have h0 : dC c p = 2 := oC_0.mp c157
                       refine kk _ ⟨h6.1.up (by decide), fun q hq e he => by rw [upR_n (by decide)]; exact h6.2.1 q hq e he, fun q hq => ?_⟩
                       rw [upR_s]
                       by_cases e1 : q = p
                       · subst e1
                         rw [pk_us, if_pos (by omega), cntP_s, show ft0 P s q c = true by unfold ft0; rw [hft, decide_eq_true h0]; rfl]; rfl
                       · rw [pk_un e1, h9.2.2 q hq]
                         by_cases e2 : q < p
                         · rw [if_pos e2, if_pos (by omega)]
                         · rw [if_neg e2, if_neg (by omega)])
                    | (have h0 : ¬ dC c p = 2 := fun q => c157 (oC_0.mpr q)
                       refine kk _ ⟨h6.1, h6.2.1, fun q hq => ?_⟩
                       rw [h6.2.2, h9.2.2 q hq]
                       by_cases e1 : q = p
                       · subst e1
                         rw [if_neg (by omega), if_pos (by omega), cntP_s, show ft0 P s q c = false by unfold ft0; rw [decide_eq_false h0, Bool.and_false]]; rfl
                       · by_cases e2 : q < p
                         · rw [if_pos e2, if_pos (by omega)]
                         · rw [if_neg e2, if_neg (by omega)])
                    | fail "no way"
            · skip
              refine g_iload dX0_weigh_115 rfl ?_
              refine g_aload_n dX0_weigh_117 rfl ?_
              refine t_getR dX0_weigh_118 fl_X0_21 rfl (by decide) rfl (by decide) rfl ?_
              refine t_getI dX0_weigh_121 fl_X0_54 rfl (by decide) rfl (by decide) ?_
              rw [h9.1 22 (by decide), h4b.1 22 (by decide), hP.1]
              refine g_icmp_ge (tgt := 177) dX0_weigh_124 (by decide) (fun c124 => ?_) (fun c124 => ?_)
              · skip
                refine g_vret dX0_weigh_177 ?_
                refine ⟨I5, rfl, (h4b.1.mono (by decide)).trans (h9.1.mono (by decide)), ?_, ?_, ?_, ?_, ?_, ?_, fun q hq e he => ?_, fun q hq => ?_⟩
                · rw [h9.1 36 (by decide)]; exact h4b.2.1
                · rw [h9.1 36 (by decide)]; exact h4b.2.2.2.2.1
                · rw [h9.1 36 (by decide)]; exact h4b.2.2.2.1
                · rw [h9.1 36 (by decide)]; exact h4b.2.2.1
                · rw [h9.1 36 (by decide)]; exact h4b.2.2.2.2.2.1
                · rw [h9.1 36 (by decide)]; exact h4b.2.2.2.2.2.2
                · rw [h9.2.1 q hq e he, if_pos hq]
                · rw [h9.2.2 q hq, if_pos hq]
              · exact absurd (Int32.le_refl _) c124
            · exact ⟨Fr.rf, fun q hq e he => by rw [h4b.1 38 (by decide), if_neg (Nat.not_lt_zero q)]; exact hB.2.2.2.2.2.2.1 q hq e he, fun q hq => by rw [h4b.1 39 (by decide), if_neg (Nat.not_lt_zero q)]; exact hB.2.2.2.2.2.2.2 q hq⟩
          · skip
            refine g_aload_n dX0_weigh_102 rfl ?_
            refine g_iload_n dX0_weigh_103 rfl ?_
            refine t_putI dX0_weigh_104 fl_X0_39 rfl (by decide) rfl (by decide) ?_
            refine g_aload_n dX0_weigh_107 rfl ?_
            refine g_iload_n dX0_weigh_108 rfl ?_
            refine t_putI dX0_weigh_109 fl_X0_36 rfl (by decide) rfl (by decide) ?_
            refine g_abs (fun I4 => Fr [36] I I4 ∧ I4 36 5 = nI (hvF P s (c + 1)).2 ∧ I4 36 8 = oI (hvF P s (c + 1)).1 ∧ I4 36 7 = oI (fstN (ftB P s) (c + 1)) ∧ I4 36 6 = nI (cntP (ftB P s) (c + 1)) ∧ I4 36 9 = nI (smF (fW P s) (c + 1)) ∧ I4 36 10 = nI (smF (nobW P s) (c + 1))) (by
              rw [hvF_s, hw0]
              first
                | (have h0 : ¬ (hvF P s c).2 < wtC P.1 c := fun q => absurd (nI_lt q (by omega)) (Int32.not_lt.mpr c99)
                   rw [if_neg h0]
                   exact ⟨h2.1, h2.2.1.trans hB.1, h2.2.2.1.trans hB.2.2.2.1, h2.2.2.2⟩)
                | (have h0 : (hvF P s c).2 < wtC P.1 c := (nI_ltI (by omega) (by omega)).mp (Int32.not_le.mp c99)
                   rw [if_pos h0]
                   refine ⟨(h2.1.up (by decide)).up (by decide), ?_, ?_, ?_, ?_, ?_, ?_⟩
                   · rw [upR_s, pk_un (by decide), upR_s, pk_us]
                   · rw [upR_s, pk_us]; rfl
                   · rw [upR_s, pk_un (by decide), upR_s, pk_un (by decide)]; exact h2.2.2.2.1
                   · rw [upR_s, pk_un (by decide), upR_s, pk_un (by decide)]; exact h2.2.2.2.2.1
                   · rw [upR_s, pk_un (by decide), upR_s, pk_un (by decide)]; exact h2.2.2.2.2.2.1
                   · rw [upR_s, pk_un (by decide), upR_s, pk_un (by decide)]; exact h2.2.2.2.2.2.2)) (fun I4 h4b => ?_)
            refine g_iconst (v := 0) dX0_weigh_112 (by decide) ?_
            refine g_istore dX0_weigh_113 (by decide) ?_
            show Go _ _ _ _ _ _ [_, _, _, _, _] _ _ _
            refine go_mem (fun p I5 => Fr [38, 39] I4 I5 ∧ (∀ q, q < P.1 → ∀ e, e < 5 → I5 38 (5 * q + e) = nI (smF (wE P s q e) (if q < p then c + 1 else c))) ∧ ∀ q, q < P.1 → I5 39 q = nI (cntP (ft0 P s q) (if q < p then c + 1 else c))) P.1 (fun p I5 => Go X (d + 1) 66 M_X0_weigh 66 115 [.ref 36, .int (nI c), .int (nI (wtC P.1 c)), .int (nI (cntO c P.1)), .int (nI p)] [] (I5, J, rf0) (RV (fun m => ∃ I', m = (I', J, rf0) ∧ Fr [36, 38, 39] I I' ∧ BelI P s (c + 1) I'))) (fun p I5 hp h9 kk => ?_) (fun I5 h9 => ?_) _ ?_
            · skip
              refine g_iload dX0_weigh_115 rfl ?_
              refine g_aload_n dX0_weigh_117 rfl ?_
              refine t_getR dX0_weigh_118 fl_X0_21 rfl (by decide) rfl (by decide) rfl ?_
              refine t_getI dX0_weigh_121 fl_X0_54 rfl (by decide) rfl (by decide) ?_
              rw [h9.1 22 (by decide), h4b.1 22 (by decide), hP.1]
              refine g_icmp_ge (tgt := 177) dX0_weigh_124 (by decide) (fun c124 => ?_) (fun c124 => ?_)
              · exact absurd (nI_lt hp (by omega)) (Int32.not_lt.mpr c124)
              · skip
                refine g_aload_n dX0_weigh_127 rfl ?_
                refine t_getR dX0_weigh_128 fl_X0_15 rfl (by decide) rfl (by decide) rfl ?_
                refine g_iload dX0_weigh_131 rfl ?_
                refine g_iconst (v := 5) dX0_weigh_133 (by decide) ?_
                refine g_imul dX0_weigh_134 ?_
                refine g_aload_n dX0_weigh_135 rfl ?_
                refine t_getR dX0_weigh_136 fl_X0_9 rfl (by decide) rfl (by decide) rfl ?_
                refine g_iload dX0_weigh_139 rfl ?_
                refine t_iald dX0_weigh_141 rfl (by decide) (in_nI (by omega) (by decide)) ?_
                rw [cl_nI (by omega), h9.1 37 (by decide), h4b.1 37 (by decide), ho p (by omega)]
                refine g_iadd dX0_weigh_142 ?_
                refine g_iconst (v := 2) dX0_weigh_143 (by decide) ?_
                refine g_iadd dX0_weigh_144 ?_
                refine g_dup2 dX0_weigh_145 rfl rfl ?_
                refine t_iald dX0_weigh_146 rfl (by decide) (by rw [ixw]; exact in_nI (by have := dC_lt c p; omega) (by decide)) ?_
                rw [ixw, cl_nI (by have := dC_lt c p; omega)]
                refine g_iload_n dX0_weigh_147 rfl ?_
                refine g_iadd dX0_weigh_148 ?_
                refine t_iast dX0_weigh_149 rfl (by decide) (in_nI (by have := dC_lt c p; omega) (by decide)) ?_
                rw [show I5 38 (5 * p + dC c p) = nI (smF (wE P s p (dC c p)) c) by rw [h9.2.1 p (by omega) (dC c p) (dC_lt c p), if_neg (by omega)], nI_add, cl_nI (by have := dC_lt c p; omega)]
                refine g_abs (fun I6 => Fr [38, 39] I4 I6 ∧ (∀ q, q < P.1 → ∀ e, e < 5 → I6 38 (5 * q + e) = nI (smF (wE P s q e) (if q < p + 1 then c + 1 else c))) ∧ I6 39 = I5 39) ⟨h9.1.up (by decide), fun q hq e he => ?_, by rw [upR_n (by decide)]⟩ (fun I6 h6 => ?_)
                · have hd9 := dC_lt c p
                  rw [upR_s]
                  by_cases e1 : q = p
                  · subst e1
                    rw [if_pos (by omega)]
                    by_cases e2 : e = dC c q
                    · rw [e2, pk_us, smF_s, show wE P s q (dC c q) c = wtC P.1 c by unfold wE; rw [if_pos rfl, hw0]]
                    · rw [pk_un (by omega), h9.2.1 q hq e he, if_neg (by omega), smF_s, show wE P s q e c = 0 from if_neg (fun z => e2 z.symm)]; rfl
                  · rw [pk_un (by omega), h9.2.1 q hq e he]
                    by_cases e2 : q < p
                    · rw [if_pos e2, if_pos (by omega)]
                    · rw [if_neg e2, if_neg (by omega)]
                refine g_aload_n dX0_weigh_150 rfl ?_
                refine t_getR dX0_weigh_151 fl_X0_9 rfl (by decide) rfl (by decide) rfl ?_
                refine g_iload dX0_weigh_154 rfl ?_
                refine t_iald dX0_weigh_156 rfl (by decide) (in_nI (by omega) (by decide)) ?_
                rw [cl_nI (by omega), h6.1 37 (by decide), h4b.1 37 (by decide), ho p (by omega)]
                refine g_if_ne (tgt := 171) dX0_weigh_157 (by decide) (fun c157 => ?_) (fun c157 => ?_)
                · skip
                  refine g_iinc dX0_weigh_171 rfl (by decide) ?_
                  show Go _ _ _ _ _ _ [_, _, _, _, _] _ _ _
                  refine g_goto (tgt := 115) dX0_weigh_174 (by decide) ?_
                  rw [nI_inc]
                  first
                    | (rw [cl_nI (by omega), h6.2.2]
                       have h0 : dC c p = 2 := oC_0.mp c157
                       refine kk _ ⟨h6.1.up (by decide), fun q hq e he => by rw [upR_n (by decide)]; exact h6.2.1 q hq e he, fun q hq => ?_⟩
                       rw [upR_s]
                       by_cases e1 : q = p
                       · subst e1
                         rw [pk_us, if_pos (by omega), cntP_s, show ft0 P s q c = true by unfold ft0; rw [hft, decide_eq_true h0]; rfl]; rfl
                       · rw [pk_un e1, h9.2.2 q hq]
                         by_cases e2 : q < p
                         · rw [if_pos e2, if_pos (by omega)]
                         · rw [if_neg e2, if_neg (by omega)])
                    | (have h0 : ¬ dC c p = 2 := fun q => c157 (oC_0.mpr q)
                       refine kk _ ⟨h6.1, h6.2.1, fun q hq => ?_⟩
                       rw [h6.2.2, h9.2.2 q hq]
                       by_cases e1 : q = p
                       · subst e1
                         rw [if_neg (by omega), if_pos (by omega), cntP_s, show ft0 P s q c = false by unfold ft0; rw [decide_eq_false h0, Bool.and_false]]; rfl
                       · by_cases e2 : q < p
                         · rw [if_pos e2, if_pos (by omega)]
                         · rw [if_neg e2, if_neg (by omega)])
                    | fail "no way"
                · skip
                  refine g_aload_n dX0_weigh_160 rfl ?_
                  refine t_getR dX0_weigh_161 fl_X0_18 rfl (by decide) rfl (by decide) rfl ?_
                  refine g_iload dX0_weigh_164 rfl ?_
                  refine g_dup2 dX0_weigh_166 rfl rfl ?_
                  refine t_iald dX0_weigh_167 rfl (by decide) (in_nI (by omega) (by decide)) ?_
                  rw [cl_nI (by omega), h6.2.2, h9.2.2 p (by omega), if_neg (by omega)]
                  refine g_iconst (v := 1) dX0_weigh_168 (by decide) ?_
                  refine g_iadd dX0_weigh_169 ?_
                  rw [nI_1]
                  refine t_iast dX0_weigh_170 rfl (by decide) (in_nI (by omega) (by decide)) ?_
                  refine g_iinc dX0_weigh_171 rfl (by decide) ?_
                  show Go _ _ _ _ _ _ [_, _, _, _, _] _ _ _
                  refine g_goto (tgt := 115) dX0_weigh_174 (by decide) ?_
                  rw [nI_inc]
                  first
                    | (rw [cl_nI (by omega), h6.2.2]
                       have h0 : dC c p = 2 := oC_0.mp c157
                       refine kk _ ⟨h6.1.up (by decide), fun q hq e he => by rw [upR_n (by decide)]; exact h6.2.1 q hq e he, fun q hq => ?_⟩
                       rw [upR_s]
                       by_cases e1 : q = p
                       · subst e1
                         rw [pk_us, if_pos (by omega), cntP_s, show ft0 P s q c = true by unfold ft0; rw [hft, decide_eq_true h0]; rfl]; rfl
                       · rw [pk_un e1, h9.2.2 q hq]
                         by_cases e2 : q < p
                         · rw [if_pos e2, if_pos (by omega)]
                         · rw [if_neg e2, if_neg (by omega)])
                    | (have h0 : ¬ dC c p = 2 := fun q => c157 (oC_0.mpr q)
                       refine kk _ ⟨h6.1, h6.2.1, fun q hq => ?_⟩
                       rw [h6.2.2, h9.2.2 q hq]
                       by_cases e1 : q = p
                       · subst e1
                         rw [if_neg (by omega), if_pos (by omega), cntP_s, show ft0 P s q c = false by unfold ft0; rw [decide_eq_false h0, Bool.and_false]]; rfl
                       · by_cases e2 : q < p
                         · rw [if_pos e2, if_pos (by omega)]
                         · rw [if_neg e2, if_neg (by omega)])
                    | fail "no way"
            · skip
              refine g_iload dX0_weigh_115 rfl ?_
              refine g_aload_n dX0_weigh_117 rfl ?_
              refine t_getR dX0_weigh_118 fl_X0_21 rfl (by decide) rfl (by decide) rfl ?_
              refine t_getI dX0_weigh_121 fl_X0_54 rfl (by decide) rfl (by decide) ?_
              rw [h9.1 22 (by decide), h4b.1 22 (by decide), hP.1]
              refine g_icmp_ge (tgt := 177) dX0_weigh_124 (by decide) (fun c124 => ?_) (fun c124 => ?_)
              · skip
                refine g_vret dX0_weigh_177 ?_
                refine ⟨I5, rfl, (h4b.1.mono (by decide)).trans (h9.1.mono (by decide)), ?_, ?_, ?_, ?_, ?_, ?_, fun q hq e he => ?_, fun q hq => ?_⟩
                · rw [h9.1 36 (by decide)]; exact h4b.2.1
                · rw [h9.1 36 (by decide)]; exact h4b.2.2.2.2.1
                · rw [h9.1 36 (by decide)]; exact h4b.2.2.2.1
                · rw [h9.1 36 (by decide)]; exact h4b.2.2.1
                · rw [h9.1 36 (by decide)]; exact h4b.2.2.2.2.2.1
                · rw [h9.1 36 (by decide)]; exact h4b.2.2.2.2.2.2
                · rw [h9.2.1 q hq e he, if_pos hq]
                · rw [h9.2.2 q hq, if_pos hq]
              · exact absurd (Int32.le_refl _) c124
            · exact ⟨Fr.rf, fun q hq e he => by rw [h4b.1 38 (by decide), if_neg (Nat.not_lt_zero q)]; exact hB.2.2.2.2.2.2.1 q hq e he, fun q hq => by rw [h4b.1 39 (by decide), if_neg (Nat.not_lt_zero q)]; exact hB.2.2.2.2.2.2.2 q hq⟩
        · skip
          refine g_aload_n dX0_weigh_89 rfl ?_
          refine g_iload_n dX0_weigh_90 rfl ?_
          refine t_putI dX0_weigh_91 fl_X0_45 rfl (by decide) rfl (by decide) ?_
          refine g_abs (fun I2 => Fr [36] I I2 ∧ I2 36 5 = I 36 5 ∧ I2 36 8 = I 36 8 ∧ I2 36 7 = oI (fstN (ftB P s) (c + 1)) ∧ I2 36 6 = nI (cntP (ftB P s) (c + 1)) ∧ I2 36 9 = nI (smF (fW P s) (c + 1)) ∧ I2 36 10 = nI (smF (nobW P s) (c + 1))) (by
            have e6 : cntP (ftB P s) (c + 1) = cntP (ftB P s) c + 1 := by rw [cntP_s, hft]; rfl
            have e9 : smF (fW P s) (c + 1) = smF (fW P s) c + wtC P.1 c := by rw [smF_s, hw0]
            rw [e6, e9]
            first
              | (have h0 : cntO c P.1 = 0 := (nI_eq (by have := cntP_le (fun q => decide (¬ dC c q = 2)) P.1; unfold cntO; omega) (by decide)).mp (show nI (cntO c P.1) = nI 0 from c86)
                 refine ⟨((h1.1.up (by decide)).up (by decide)).up (by decide), ?_, ?_, ?_, ?_, ?_, ?_⟩
                 · rw [upR_s, pk_un (by decide), upR_s, pk_un (by decide), upR_s, pk_un (by decide)]; exact h1.2.1 5 (by decide)
                 · rw [upR_s, pk_un (by decide), upR_s, pk_un (by decide), upR_s, pk_un (by decide)]; exact h1.2.1 8 (by decide)
                 · rw [upR_s, pk_un (by decide), upR_s, pk_un (by decide), upR_s, pk_un (by decide)]; exact h1.2.2
                 · rw [upR_s, pk_un (by decide), upR_s, pk_un (by decide), upR_s, pk_us]
                 · rw [upR_s, pk_un (by decide), upR_s, pk_us]
                 · rw [upR_s, pk_us, smF_s, nob_0 hc h0, show nobW P s c = wtC P.1 c by unfold nobW; rw [if_pos h0, hw0], Nat.zero_add])
              | (have h0 : ¬ cntO c P.1 = 0 := fun q => c86 (by show nI (cntO c P.1) = 0; rw [q]; rfl)
                 refine ⟨(h1.1.up (by decide)).up (by decide), ?_, ?_, ?_, ?_, ?_, ?_⟩
                 · rw [upR_s, pk_un (by decide), upR_s, pk_un (by decide)]; exact h1.2.1 5 (by decide)
                 · rw [upR_s, pk_un (by decide), upR_s, pk_un (by decide)]; exact h1.2.1 8 (by decide)
                 · rw [upR_s, pk_un (by decide), upR_s, pk_un (by decide)]; exact h1.2.2
                 · rw [upR_s, pk_un (by decide), upR_s, pk_us]
                 · rw [upR_s, pk_us]
                 · rw [upR_s, pk_un (by decide), upR_s, pk_un (by decide), h1.2.1 10 (by decide), hB.2.2.2.2.2.1, smF_s, show nobW P s c = 0 from if_neg h0]; rfl)) (fun I2 h2 => ?_)
          refine g_iload_n dX0_weigh_94 rfl ?_
          refine g_aload_n dX0_weigh_95 rfl ?_
          refine t_getI dX0_weigh_96 fl_X0_39 rfl (by decide) rfl (by decide) ?_
          rw [h2.2.1, hB.1]
          refine g_icmp_le (tgt := 112) dX0_weigh_99 (by decide) (fun c99 => ?_) (fun c99 => ?_)
          · skip
            refine g_abs (fun I4 => Fr [36] I I4 ∧ I4 36 5 = nI (hvF P s (c + 1)).2 ∧ I4 36 8 = oI (hvF P s (c + 1)).1 ∧ I4 36 7 = oI (fstN (ftB P s) (c + 1)) ∧ I4 36 6 = nI (cntP (ftB P s) (c + 1)) ∧ I4 36 9 = nI (smF (fW P s) (c + 1)) ∧ I4 36 10 = nI (smF (nobW P s) (c + 1))) (by
              rw [hvF_s, hw0]
              first
                | (have h0 : ¬ (hvF P s c).2 < wtC P.1 c := fun q => absurd (nI_lt q (by omega)) (Int32.not_lt.mpr c99)
                   rw [if_neg h0]
                   exact ⟨h2.1, h2.2.1.trans hB.1, h2.2.2.1.trans hB.2.2.2.1, h2.2.2.2⟩)
                | (have h0 : (hvF P s c).2 < wtC P.1 c := (nI_ltI (by omega) (by omega)).mp (Int32.not_le.mp c99)
                   rw [if_pos h0]
                   refine ⟨(h2.1.up (by decide)).up (by decide), ?_, ?_, ?_, ?_, ?_, ?_⟩
                   · rw [upR_s, pk_un (by decide), upR_s, pk_us]
                   · rw [upR_s, pk_us]; rfl
                   · rw [upR_s, pk_un (by decide), upR_s, pk_un (by decide)]; exact h2.2.2.2.1
                   · rw [upR_s, pk_un (by decide), upR_s, pk_un (by decide)]; exact h2.2.2.2.2.1
                   · rw [upR_s, pk_un (by decide), upR_s, pk_un (by decide)]; exact h2.2.2.2.2.2.1
                   · rw [upR_s, pk_un (by decide), upR_s, pk_un (by decide)]; exact h2.2.2.2.2.2.2)) (fun I4 h4b => ?_)
            refine g_iconst (v := 0) dX0_weigh_112 (by decide) ?_
            refine g_istore dX0_weigh_113 (by decide) ?_
            show Go _ _ _ _ _ _ [_, _, _, _, _] _ _ _
            refine go_mem (fun p I5 => Fr [38, 39] I4 I5 ∧ (∀ q, q < P.1 → ∀ e, e < 5 → I5 38 (5 * q + e) = nI (smF (wE P s q e) (if q < p then c + 1 else c))) ∧ ∀ q, q < P.1 → I5 39 q = nI (cntP (ft0 P s q) (if q < p then c + 1 else c))) P.1 (fun p I5 => Go X (d + 1) 66 M_X0_weigh 66 115 [.ref 36, .int (nI c), .int (nI (wtC P.1 c)), .int (nI (cntO c P.1)), .int (nI p)] [] (I5, J, rf0) (RV (fun m => ∃ I', m = (I', J, rf0) ∧ Fr [36, 38, 39] I I' ∧ BelI P s (c + 1) I'))) (fun p I5 hp h9 kk => ?_) (fun I5 h9 => ?_) _ ?_
            · skip
              refine g_iload dX0_weigh_115 rfl ?_
              refine g_aload_n dX0_weigh_117 rfl ?_
              refine t_getR dX0_weigh_118 fl_X0_21 rfl (by decide) rfl (by decide) rfl ?_
              refine t_getI dX0_weigh_121 fl_X0_54 rfl (by decide) rfl (by decide) ?_
              rw [h9.1 22 (by decide), h4b.1 22 (by decide), hP.1]
              refine g_icmp_ge (tgt := 177) dX0_weigh_124 (by decide) (fun c124 => ?_) (fun c124 => ?_)
              · exact absurd (nI_lt hp (by omega)) (Int32.not_lt.mpr c124)
              · skip
                refine g_aload_n dX0_weigh_127 rfl ?_
                refine t_getR dX0_weigh_128 fl_X0_15 rfl (by decide) rfl (by decide) rfl ?_
                refine g_iload dX0_weigh_131 rfl ?_
                refine g_iconst (v := 5) dX0_weigh_133 (by decide) ?_
                refine g_imul dX0_weigh_134 ?_
                refine g_aload_n dX0_weigh_135 rfl ?_
                refine t_getR dX0_weigh_136 fl_X0_9 rfl (by decide) rfl (by decide) rfl ?_
                refine g_iload dX0_weigh_139 rfl ?_
                refine t_iald dX0_weigh_141 rfl (by decide) (in_nI (by omega) (by decide)) ?_
                rw [cl_nI (by omega), h9.1 37 (by decide), h4b.1 37 (by decide), ho p (by omega)]
                refine g_iadd dX0_weigh_142 ?_
                refine g_iconst (v := 2) dX0_weigh_143 (by decide) ?_
                refine g_iadd dX0_weigh_144 ?_
                refine g_dup2 dX0_weigh_145 rfl rfl ?_
                refine t_iald dX0_weigh_146 rfl (by decide) (by rw [ixw]; exact in_nI (by have := dC_lt c p; omega) (by decide)) ?_
                rw [ixw, cl_nI (by have := dC_lt c p; omega)]
                refine g_iload_n dX0_weigh_147 rfl ?_
                refine g_iadd dX0_weigh_148 ?_
                refine t_iast dX0_weigh_149 rfl (by decide) (in_nI (by have := dC_lt c p; omega) (by decide)) ?_
                rw [show I5 38 (5 * p + dC c p) = nI (smF (wE P s p (dC c p)) c) by rw [h9.2.1 p (by omega) (dC c p) (dC_lt c p), if_neg (by omega)], nI_add, cl_nI (by have := dC_lt c p; omega)]
                refine g_abs (fun I6 => Fr [38, 39] I4 I6 ∧ (∀ q, q < P.1 → ∀ e, e < 5 → I6 38 (5 * q + e) = nI (smF (wE P s q e) (if q < p + 1 then c + 1 else c))) ∧ I6 39 = I5 39) ⟨h9.1.up (by decide), fun q hq e he => ?_, by rw [upR_n (by decide)]⟩ (fun I6 h6 => ?_)
                · have hd9 := dC_lt c p
                  rw [upR_s]
                  by_cases e1 : q = p
                  · subst e1
                    rw [if_pos (by omega)]
                    by_cases e2 : e = dC c q
                    · rw [e2, pk_us, smF_s, show wE P s q (dC c q) c = wtC P.1 c by unfold wE; rw [if_pos rfl, hw0]]
                    · rw [pk_un (by omega), h9.2.1 q hq e he, if_neg (by omega), smF_s, show wE P s q e c = 0 from if_neg (fun z => e2 z.symm)]; rfl
                  · rw [pk_un (by omega), h9.2.1 q hq e he]
                    by_cases e2 : q < p
                    · rw [if_pos e2, if_pos (by omega)]
                    · rw [if_neg e2, if_neg (by omega)]
                refine g_aload_n dX0_weigh_150 rfl ?_
                refine t_getR dX0_weigh_151 fl_X0_9 rfl (by decide) rfl (by decide) rfl ?_
                refine g_iload dX0_weigh_154 rfl ?_
                refine t_iald dX0_weigh_156 rfl (by decide) (in_nI (by omega) (by decide)) ?_
                rw [cl_nI (by omega), h6.1 37 (by decide), h4b.1 37 (by decide), ho p (by omega)]
                refine g_if_ne (tgt := 171) dX0_weigh_157 (by decide) (fun c157 => ?_) (fun c157 => ?_)
                · skip
                  refine g_iinc dX0_weigh_171 rfl (by decide) ?_
                  show Go _ _ _ _ _ _ [_, _, _, _, _] _ _ _
                  refine g_goto (tgt := 115) dX0_weigh_174 (by decide) ?_
                  rw [nI_inc]
                  first
                    | (rw [cl_nI (by omega), h6.2.2]
                       have h0 : dC c p = 2 := oC_0.mp c157
                       refine kk _ ⟨h6.1.up (by decide), fun q hq e he => by rw [upR_n (by decide)]; exact h6.2.1 q hq e he, fun q hq => ?_⟩
                       rw [upR_s]
                       by_cases e1 : q = p
                       · subst e1
                         rw [pk_us, if_pos (by omega), cntP_s, show ft0 P s q c = true by unfold ft0; rw [hft, decide_eq_true h0]; rfl]; rfl
                       · rw [pk_un e1, h9.2.2 q hq]
                         by_cases e2 : q < p
                         · rw [if_pos e2, if_pos (by omega)]
                         · rw [if_neg e2, if_neg (by omega)])
                    | (have h0 : ¬ dC c p = 2 := fun q => c157 (oC_0.mpr q)
                       refine kk _ ⟨h6.1, h6.2.1, fun q hq => ?_⟩
                       rw [h6.2.2, h9.2.2 q hq]
                       by_cases e1 : q = p
                       · subst e1
                         rw [if_neg (by omega), if_pos (by omega), cntP_s, show ft0 P s q c = false by unfold ft0; rw [decide_eq_false h0, Bool.and_false]]; rfl
                       · by_cases e2 : q < p
                         · rw [if_pos e2, if_pos (by omega)]
                         · rw [if_neg e2, if_neg (by omega)])
                    | fail "no way"
                · skip
                  refine g_aload_n dX0_weigh_160 rfl ?_
                  refine t_getR dX0_weigh_161 fl_X0_18 rfl (by decide) rfl (by decide) rfl ?_
                  refine g_iload dX0_weigh_164 rfl ?_
                  refine g_dup2 dX0_weigh_166 rfl rfl ?_
                  refine t_iald dX0_weigh_167 rfl (by decide) (in_nI (by omega) (by decide)) ?_
                  rw [cl_nI (by omega), h6.2.2, h9.2.2 p (by omega), if_neg (by omega)]
                  refine g_iconst (v := 1) dX0_weigh_168 (by decide) ?_
                  refine g_iadd dX0_weigh_169 ?_
                  rw [nI_1]
                  refine t_iast dX0_weigh_170 rfl (by decide) (in_nI (by omega) (by decide)) ?_
                  refine g_iinc dX0_weigh_171 rfl (by decide) ?_
                  show Go _ _ _ _ _ _ [_, _, _, _, _] _ _ _
                  refine g_goto (tgt := 115) dX0_weigh_174 (by decide) ?_
                  rw [nI_inc]
                  first
                    | (rw [cl_nI (by omega), h6.2.2]
                       have h0 : dC c p = 2 := oC_0.mp c157
                       refine kk _ ⟨h6.1.up (by decide), fun q hq e he => by rw [upR_n (by decide)]; exact h6.2.1 q hq e he, fun q hq => ?_⟩
                       rw [upR_s]
                       by_cases e1 : q = p
                       · subst e1
                         rw [pk_us, if_pos (by omega), cntP_s, show ft0 P s q c = true by unfold ft0; rw [hft, decide_eq_true h0]; rfl]; rfl
                       · rw [pk_un e1, h9.2.2 q hq]
                         by_cases e2 : q < p
                         · rw [if_pos e2, if_pos (by omega)]
                         · rw [if_neg e2, if_neg (by omega)])
                    | (have h0 : ¬ dC c p = 2 := fun q => c157 (oC_0.mpr q)
                       refine kk _ ⟨h6.1, h6.2.1, fun q hq => ?_⟩
                       rw [h6.2.2, h9.2.2 q hq]
                       by_cases e1 : q = p
                       · subst e1
                         rw [if_neg (by omega), if_pos (by omega), cntP_s, show ft0 P s q c = false by unfold ft0; rw [decide_eq_false h0, Bool.and_false]]; rfl
                       · by_cases e2 : q < p
                         · rw [if_pos e2, if_pos (by omega)]
                         · rw [if_neg e2, if_neg (by omega)])
                    | fail "no way"
            · skip
              refine g_iload dX0_weigh_115 rfl ?_
              refine g_aload_n dX0_weigh_117 rfl ?_
              refine t_getR dX0_weigh_118 fl_X0_21 rfl (by decide) rfl (by decide) rfl ?_
              refine t_getI dX0_weigh_121 fl_X0_54 rfl (by decide) rfl (by decide) ?_
              rw [h9.1 22 (by decide), h4b.1 22 (by decide), hP.1]
              refine g_icmp_ge (tgt := 177) dX0_weigh_124 (by decide) (fun c124 => ?_) (fun c124 => ?_)
              · skip
                refine g_vret dX0_weigh_177 ?_
                refine ⟨I5, rfl, (h4b.1.mono (by decide)).trans (h9.1.mono (by decide)), ?_, ?_, ?_, ?_, ?_, ?_, fun q hq e he => ?_, fun q hq => ?_⟩
                · rw [h9.1 36 (by decide)]; exact h4b.2.1
                · rw [h9.1 36 (by decide)]; exact h4b.2.2.2.2.1
                · rw [h9.1 36 (by decide)]; exact h4b.2.2.2.1
                · rw [h9.1 36 (by decide)]; exact h4b.2.2.1
                · rw [h9.1 36 (by decide)]; exact h4b.2.2.2.2.2.1
                · rw [h9.1 36 (by decide)]; exact h4b.2.2.2.2.2.2
                · rw [h9.2.1 q hq e he, if_pos hq]
                · rw [h9.2.2 q hq, if_pos hq]
              · exact absurd (Int32.le_refl _) c124
            · exact ⟨Fr.rf, fun q hq e he => by rw [h4b.1 38 (by decide), if_neg (Nat.not_lt_zero q)]; exact hB.2.2.2.2.2.2.1 q hq e he, fun q hq => by rw [h4b.1 39 (by decide), if_neg (Nat.not_lt_zero q)]; exact hB.2.2.2.2.2.2.2 q hq⟩
          · skip
            refine g_aload_n dX0_weigh_102 rfl ?_
            refine g_iload_n dX0_weigh_103 rfl ?_
            refine t_putI dX0_weigh_104 fl_X0_39 rfl (by decide) rfl (by decide) ?_
            refine g_aload_n dX0_weigh_107 rfl ?_
            refine g_iload_n dX0_weigh_108 rfl ?_
            refine t_putI dX0_weigh_109 fl_X0_36 rfl (by decide) rfl (by decide) ?_
            refine g_abs (fun I4 => Fr [36] I I4 ∧ I4 36 5 = nI (hvF P s (c + 1)).2 ∧ I4 36 8 = oI (hvF P s (c + 1)).1 ∧ I4 36 7 = oI (fstN (ftB P s) (c + 1)) ∧ I4 36 6 = nI (cntP (ftB P s) (c + 1)) ∧ I4 36 9 = nI (smF (fW P s) (c + 1)) ∧ I4 36 10 = nI (smF (nobW P s) (c + 1))) (by
              rw [hvF_s, hw0]
              first
                | (have h0 : ¬ (hvF P s c).2 < wtC P.1 c := fun q => absurd (nI_lt q (by omega)) (Int32.not_lt.mpr c99)
                   rw [if_neg h0]
                   exact ⟨h2.1, h2.2.1.trans hB.1, h2.2.2.1.trans hB.2.2.2.1, h2.2.2.2⟩)
                | (have h0 : (hvF P s c).2 < wtC P.1 c := (nI_ltI (by omega) (by omega)).mp (Int32.not_le.mp c99)
                   rw [if_pos h0]
                   refine ⟨(h2.1.up (by decide)).up (by decide), ?_, ?_, ?_, ?_, ?_, ?_⟩
                   · rw [upR_s, pk_un (by decide), upR_s, pk_us]
                   · rw [upR_s, pk_us]; rfl
                   · rw [upR_s, pk_un (by decide), upR_s, pk_un (by decide)]; exact h2.2.2.2.1
                   · rw [upR_s, pk_un (by decide), upR_s, pk_un (by decide)]; exact h2.2.2.2.2.1
                   · rw [upR_s, pk_un (by decide), upR_s, pk_un (by decide)]; exact h2.2.2.2.2.2.1
                   · rw [upR_s, pk_un (by decide), upR_s, pk_un (by decide)]; exact h2.2.2.2.2.2.2)) (fun I4 h4b => ?_)
            refine g_iconst (v := 0) dX0_weigh_112 (by decide) ?_
            refine g_istore dX0_weigh_113 (by decide) ?_
            show Go _ _ _ _ _ _ [_, _, _, _, _] _ _ _
            refine go_mem (fun p I5 => Fr [38, 39] I4 I5 ∧ (∀ q, q < P.1 → ∀ e, e < 5 → I5 38 (5 * q + e) = nI (smF (wE P s q e) (if q < p then c + 1 else c))) ∧ ∀ q, q < P.1 → I5 39 q = nI (cntP (ft0 P s q) (if q < p then c + 1 else c))) P.1 (fun p I5 => Go X (d + 1) 66 M_X0_weigh 66 115 [.ref 36, .int (nI c), .int (nI (wtC P.1 c)), .int (nI (cntO c P.1)), .int (nI p)] [] (I5, J, rf0) (RV (fun m => ∃ I', m = (I', J, rf0) ∧ Fr [36, 38, 39] I I' ∧ BelI P s (c + 1) I'))) (fun p I5 hp h9 kk => ?_) (fun I5 h9 => ?_) _ ?_
            · skip
              refine g_iload dX0_weigh_115 rfl ?_
              refine g_aload_n dX0_weigh_117 rfl ?_
              refine t_getR dX0_weigh_118 fl_X0_21 rfl (by decide) rfl (by decide) rfl ?_
              refine t_getI dX0_weigh_121 fl_X0_54 rfl (by decide) rfl (by decide) ?_
              rw [h9.1 22 (by decide), h4b.1 22 (by decide), hP.1]
              refine g_icmp_ge (tgt := 177) dX0_weigh_124 (by decide) (fun c124 => ?_) (fun c124 => ?_)
              · exact absurd (nI_lt hp (by omega)) (Int32.not_lt.mpr c124)
              · skip
                refine g_aload_n dX0_weigh_127 rfl ?_
                refine t_getR dX0_weigh_128 fl_X0_15 rfl (by decide) rfl (by decide) rfl ?_
                refine g_iload dX0_weigh_131 rfl ?_
                refine g_iconst (v := 5) dX0_weigh_133 (by decide) ?_
                refine g_imul dX0_weigh_134 ?_
                refine g_aload_n dX0_weigh_135 rfl ?_
                refine t_getR dX0_weigh_136 fl_X0_9 rfl (by decide) rfl (by decide) rfl ?_
                refine g_iload dX0_weigh_139 rfl ?_
                refine t_iald dX0_weigh_141 rfl (by decide) (in_nI (by omega) (by decide)) ?_
                rw [cl_nI (by omega), h9.1 37 (by decide), h4b.1 37 (by decide), ho p (by omega)]
                refine g_iadd dX0_weigh_142 ?_
                refine g_iconst (v := 2) dX0_weigh_143 (by decide) ?_
                refine g_iadd dX0_weigh_144 ?_
                refine g_dup2 dX0_weigh_145 rfl rfl ?_
                refine t_iald dX0_weigh_146 rfl (by decide) (by rw [ixw]; exact in_nI (by have := dC_lt c p; omega) (by decide)) ?_
                rw [ixw, cl_nI (by have := dC_lt c p; omega)]
                refine g_iload_n dX0_weigh_147 rfl ?_
                refine g_iadd dX0_weigh_148 ?_
                refine t_iast dX0_weigh_149 rfl (by decide) (in_nI (by have := dC_lt c p; omega) (by decide)) ?_
                rw [show I5 38 (5 * p + dC c p) = nI (smF (wE P s p (dC c p)) c) by rw [h9.2.1 p (by omega) (dC c p) (dC_lt c p), if_neg (by omega)], nI_add, cl_nI (by have := dC_lt c p; omega)]
                refine g_abs (fun I6 => Fr [38, 39] I4 I6 ∧ (∀ q, q < P.1 → ∀ e, e < 5 → I6 38 (5 * q + e) = nI (smF (wE P s q e) (if q < p + 1 then c + 1 else c))) ∧ I6 39 = I5 39) ⟨h9.1.up (by decide), fun q hq e he => ?_, by rw [upR_n (by decide)]⟩ (fun I6 h6 => ?_)
                · have hd9 := dC_lt c p
                  rw [upR_s]
                  by_cases e1 : q = p
                  · subst e1
                    rw [if_pos (by omega)]
                    by_cases e2 : e = dC c q
                    · rw [e2, pk_us, smF_s, show wE P s q (dC c q) c = wtC P.1 c by unfold wE; rw [if_pos rfl, hw0]]
                    · rw [pk_un (by omega), h9.2.1 q hq e he, if_neg (by omega), smF_s, show wE P s q e c = 0 from if_neg (fun z => e2 z.symm)]; rfl
                  · rw [pk_un (by omega), h9.2.1 q hq e he]
                    by_cases e2 : q < p
                    · rw [if_pos e2, if_pos (by omega)]
                    · rw [if_neg e2, if_neg (by omega)]
                refine g_aload_n dX0_weigh_150 rfl ?_
                refine t_getR dX0_weigh_151 fl_X0_9 rfl (by decide) rfl (by decide) rfl ?_
                refine g_iload dX0_weigh_154 rfl ?_
                refine t_iald dX0_weigh_156 rfl (by decide) (in_nI (by omega) (by decide)) ?_
                rw [cl_nI (by omega), h6.1 37 (by decide), h4b.1 37 (by decide), ho p (by omega)]
                refine g_if_ne (tgt := 171) dX0_weigh_157 (by decide) (fun c157 => ?_) (fun c157 => ?_)
                · skip
                  refine g_iinc dX0_weigh_171 rfl (by decide) ?_
                  show Go _ _ _ _ _ _ [_, _, _, _, _] _ _ _
                  refine g_goto (tgt := 115) dX0_weigh_174 (by decide) ?_
                  rw [nI_inc]
                  first
                    | (rw [cl_nI (by omega), h6.2.2]
                       have h0 : dC c p = 2 := oC_0.mp c157
                       refine kk _ ⟨h6.1.up (by decide), fun q hq e he => by rw [upR_n (by decide)]; exact h6.2.1 q hq e he, fun q hq => ?_⟩
                       rw [upR_s]
                       by_cases e1 : q = p
                       · subst e1
                         rw [pk_us, if_pos (by omega), cntP_s, show ft0 P s q c = true by unfold ft0; rw [hft, decide_eq_true h0]; rfl]; rfl
                       · rw [pk_un e1, h9.2.2 q hq]
                         by_cases e2 : q < p
                         · rw [if_pos e2, if_pos (by omega)]
                         · rw [if_neg e2, if_neg (by omega)])
                    | (have h0 : ¬ dC c p = 2 := fun q => c157 (oC_0.mpr q)
                       refine kk _ ⟨h6.1, h6.2.1, fun q hq => ?_⟩
                       rw [h6.2.2, h9.2.2 q hq]
                       by_cases e1 : q = p
                       · subst e1
                         rw [if_neg (by omega), if_pos (by omega), cntP_s, show ft0 P s q c = false by unfold ft0; rw [decide_eq_false h0, Bool.and_false]]; rfl
                       · by_cases e2 : q < p
                         · rw [if_pos e2, if_pos (by omega)]
                         · rw [if_neg e2, if_neg (by omega)])
                    | fail "no way"
                · skip
                  refine g_aload_n dX0_weigh_160 rfl ?_
                  refine t_getR dX0_weigh_161 fl_X0_18 rfl (by decide) rfl (by decide) rfl ?_
                  refine g_iload dX0_weigh_164 rfl ?_
                  refine g_dup2 dX0_weigh_166 rfl rfl ?_
                  refine t_iald dX0_weigh_167 rfl (by decide) (in_nI (by omega) (by decide)) ?_
                  rw [cl_nI (by omega), h6.2.2, h9.2.2 p (by omega), if_neg (by omega)]
                  refine g_iconst (v := 1) dX0_weigh_168 (by decide) ?_
                  refine g_iadd dX0_weigh_169 ?_
                  rw [nI_1]
                  refine t_iast dX0_weigh_170 rfl (by decide) (in_nI (by omega) (by decide)) ?_
                  refine g_iinc dX0_weigh_171 rfl (by decide) ?_
                  show Go _ _ _ _ _ _ [_, _, _, _, _] _ _ _
                  refine g_goto (tgt := 115) dX0_weigh_174 (by decide) ?_
                  rw [nI_inc]
                  first
                    | (rw [cl_nI (by omega), h6.2.2]
                       have h0 : dC c p = 2 := oC_0.mp c157
                       refine kk _ ⟨h6.1.up (by decide), fun q hq e he => by rw [upR_n (by decide)]; exact h6.2.1 q hq e he, fun q hq => ?_⟩
                       rw [upR_s]
                       by_cases e1 : q = p
                       · subst e1
                         rw [pk_us, if_pos (by omega), cntP_s, show ft0 P s q c = true by unfold ft0; rw [hft, decide_eq_true h0]; rfl]; rfl
                       · rw [pk_un e1, h9.2.2 q hq]
                         by_cases e2 : q < p
                         · rw [if_pos e2, if_pos (by omega)]
                         · rw [if_neg e2, if_neg (by omega)])
                    | (have h0 : ¬ dC c p = 2 := fun q => c157 (oC_0.mpr q)
                       refine kk _ ⟨h6.1, h6.2.1, fun q hq => ?_⟩
                       rw [h6.2.2, h9.2.2 q hq]
                       by_cases e1 : q = p
                       · subst e1
                         rw [if_neg (by omega), if_pos (by omega), cntP_s, show ft0 P s q c = false by unfold ft0; rw [decide_eq_false h0, Bool.and_false]]; rfl
                       · by_cases e2 : q < p
                         · rw [if_pos e2, if_pos (by omega)]
                         · rw [if_neg e2, if_neg (by omega)])
                    | fail "no way"
            · skip
              refine g_iload dX0_weigh_115 rfl ?_
              refine g_aload_n dX0_weigh_117 rfl ?_
              refine t_getR dX0_weigh_118 fl_X0_21 rfl (by decide) rfl (by decide) rfl ?_
              refine t_getI dX0_weigh_121 fl_X0_54 rfl (by decide) rfl (by decide) ?_
              rw [h9.1 22 (by decide), h4b.1 22 (by decide), hP.1]
              refine g_icmp_ge (tgt := 177) dX0_weigh_124 (by decide) (fun c124 => ?_) (fun c124 => ?_)
              · skip
                refine g_vret dX0_weigh_177 ?_
                refine ⟨I5, rfl, (h4b.1.mono (by decide)).trans (h9.1.mono (by decide)), ?_, ?_, ?_, ?_, ?_, ?_, fun q hq e he => ?_, fun q hq => ?_⟩
                · rw [h9.1 36 (by decide)]; exact h4b.2.1
                · rw [h9.1 36 (by decide)]; exact h4b.2.2.2.2.1
                · rw [h9.1 36 (by decide)]; exact h4b.2.2.2.1
                · rw [h9.1 36 (by decide)]; exact h4b.2.2.1
                · rw [h9.1 36 (by decide)]; exact h4b.2.2.2.2.2.1
                · rw [h9.1 36 (by decide)]; exact h4b.2.2.2.2.2.2
                · rw [h9.2.1 q hq e he, if_pos hq]
                · rw [h9.2.2 q hq, if_pos hq]
              · exact absurd (Int32.le_refl _) c124
            · exact ⟨Fr.rf, fun q hq e he => by rw [h4b.1 38 (by decide), if_neg (Nat.not_lt_zero q)]; exact hB.2.2.2.2.2.2.1 q hq e he, fun q hq => by rw [h4b.1 39 (by decide), if_neg (Nat.not_lt_zero q)]; exact hB.2.2.2.2.2.2.2 q hq⟩
      · skip
        refine g_aload_n dX0_weigh_60 rfl ?_
        refine g_iload_n dX0_weigh_61 rfl ?_
        refine t_putI dX0_weigh_62 fl_X0_33 rfl (by decide) rfl (by decide) ?_
        refine g_abs (fun I1 => Fr [36] I I1 ∧ (∀ j, j ≠ 7 → I1 36 j = I 36 j) ∧ I1 36 7 = oI (fstN (ftB P s) (c + 1))) (by
          first
            | (have h0 : cntP (ftB P s) c = 0 := (nI_eq (by omega) (by decide)).mp (show nI (cntP (ftB P s) c) = nI 0 from c57)
               refine ⟨Fr.rf.up (by decide), fun j hj => by rw [upR_s, pk_un hj], ?_⟩
               rw [upR_s, pk_us, fstN_s, cnt_fst.mp h0]
               show nI c = oI (if ftB P s c then some c else none)
               rw [hft]; rfl)
            | (have h0 : ¬ cntP (ftB P s) c = 0 := fun q => c57 (by rw [q]; rfl)
               refine ⟨Fr.rf, fun j hj => rfl, ?_⟩
               rw [hB.2.2.1, fstN_s]
               cases hh : fstN (ftB P s) c with
               | some i => rfl
               | none => exact absurd (cnt_fst.mpr hh) h0)) (fun I1 h1 => ?_)
        refine g_aload_n dX0_weigh_65 rfl ?_
        refine g_dup dX0_weigh_66 rfl ?_
        refine t_getI dX0_weigh_67 fl_X0_29 rfl (by decide) rfl (by decide) ?_
        rw [h1.2.1 6 (by decide), hB.2.1]
        refine g_iconst (v := 1) dX0_weigh_70 (by decide) ?_
        refine g_iadd dX0_weigh_71 ?_
        rw [nI_1]
        refine t_putI dX0_weigh_72 fl_X0_29 rfl (by decide) rfl (by decide) ?_
        refine g_aload_n dX0_weigh_75 rfl ?_
        refine g_dup dX0_weigh_76 rfl ?_
        refine t_getI dX0_weigh_77 fl_X0_42 rfl (by decide) rfl (by decide) ?_
        rw [upR_s, pk_un (by decide), h1.2.1 9 (by decide), hB.2.2.2.2.1]
        refine g_iload_n dX0_weigh_80 rfl ?_
        refine g_iadd dX0_weigh_81 ?_
        rw [nI_add]
        refine t_putI dX0_weigh_82 fl_X0_42 rfl (by decide) rfl (by decide) ?_
        refine g_iload_n dX0_weigh_85 rfl ?_
        refine g_if_ne (tgt := 94) dX0_weigh_86 (by decide) (fun c86 => ?_) (fun c86 => ?_)
        · skip
          refine g_abs (fun I2 => Fr [36] I I2 ∧ I2 36 5 = I 36 5 ∧ I2 36 8 = I 36 8 ∧ I2 36 7 = oI (fstN (ftB P s) (c + 1)) ∧ I2 36 6 = nI (cntP (ftB P s) (c + 1)) ∧ I2 36 9 = nI (smF (fW P s) (c + 1)) ∧ I2 36 10 = nI (smF (nobW P s) (c + 1))) (by
            have e6 : cntP (ftB P s) (c + 1) = cntP (ftB P s) c + 1 := by rw [cntP_s, hft]; rfl
            have e9 : smF (fW P s) (c + 1) = smF (fW P s) c + wtC P.1 c := by rw [smF_s, hw0]
            rw [e6, e9]
            first
              | (have h0 : cntO c P.1 = 0 := (nI_eq (by have := cntP_le (fun q => decide (¬ dC c q = 2)) P.1; unfold cntO; omega) (by decide)).mp (show nI (cntO c P.1) = nI 0 from c86)
                 refine ⟨((h1.1.up (by decide)).up (by decide)).up (by decide), ?_, ?_, ?_, ?_, ?_, ?_⟩
                 · rw [upR_s, pk_un (by decide), upR_s, pk_un (by decide), upR_s, pk_un (by decide)]; exact h1.2.1 5 (by decide)
                 · rw [upR_s, pk_un (by decide), upR_s, pk_un (by decide), upR_s, pk_un (by decide)]; exact h1.2.1 8 (by decide)
                 · rw [upR_s, pk_un (by decide), upR_s, pk_un (by decide), upR_s, pk_un (by decide)]; exact h1.2.2
                 · rw [upR_s, pk_un (by decide), upR_s, pk_un (by decide), upR_s, pk_us]
                 · rw [upR_s, pk_un (by decide), upR_s, pk_us]
                 · rw [upR_s, pk_us, smF_s, nob_0 hc h0, show nobW P s c = wtC P.1 c by unfold nobW; rw [if_pos h0, hw0], Nat.zero_add])
              | (have h0 : ¬ cntO c P.1 = 0 := fun q => c86 (by show nI (cntO c P.1) = 0; rw [q]; rfl)
                 refine ⟨(h1.1.up (by decide)).up (by decide), ?_, ?_, ?_, ?_, ?_, ?_⟩
                 · rw [upR_s, pk_un (by decide), upR_s, pk_un (by decide)]; exact h1.2.1 5 (by decide)
                 · rw [upR_s, pk_un (by decide), upR_s, pk_un (by decide)]; exact h1.2.1 8 (by decide)
                 · rw [upR_s, pk_un (by decide), upR_s, pk_un (by decide)]; exact h1.2.2
                 · rw [upR_s, pk_un (by decide), upR_s, pk_us]
                 · rw [upR_s, pk_us]
                 · rw [upR_s, pk_un (by decide), upR_s, pk_un (by decide), h1.2.1 10 (by decide), hB.2.2.2.2.2.1, smF_s, show nobW P s c = 0 from if_neg h0]; rfl)) (fun I2 h2 => ?_)
          refine g_iload_n dX0_weigh_94 rfl ?_
          refine g_aload_n dX0_weigh_95 rfl ?_
          refine t_getI dX0_weigh_96 fl_X0_39 rfl (by decide) rfl (by decide) ?_
          rw [h2.2.1, hB.1]
          refine g_icmp_le (tgt := 112) dX0_weigh_99 (by decide) (fun c99 => ?_) (fun c99 => ?_)
          · skip
            refine g_abs (fun I4 => Fr [36] I I4 ∧ I4 36 5 = nI (hvF P s (c + 1)).2 ∧ I4 36 8 = oI (hvF P s (c + 1)).1 ∧ I4 36 7 = oI (fstN (ftB P s) (c + 1)) ∧ I4 36 6 = nI (cntP (ftB P s) (c + 1)) ∧ I4 36 9 = nI (smF (fW P s) (c + 1)) ∧ I4 36 10 = nI (smF (nobW P s) (c + 1))) (by
              rw [hvF_s, hw0]
              first
                | (have h0 : ¬ (hvF P s c).2 < wtC P.1 c := fun q => absurd (nI_lt q (by omega)) (Int32.not_lt.mpr c99)
                   rw [if_neg h0]
                   exact ⟨h2.1, h2.2.1.trans hB.1, h2.2.2.1.trans hB.2.2.2.1, h2.2.2.2⟩)
                | (have h0 : (hvF P s c).2 < wtC P.1 c := (nI_ltI (by omega) (by omega)).mp (Int32.not_le.mp c99)
                   rw [if_pos h0]
                   refine ⟨(h2.1.up (by decide)).up (by decide), ?_, ?_, ?_, ?_, ?_, ?_⟩
                   · rw [upR_s, pk_un (by decide), upR_s, pk_us]
                   · rw [upR_s, pk_us]; rfl
                   · rw [upR_s, pk_un (by decide), upR_s, pk_un (by decide)]; exact h2.2.2.2.1
                   · rw [upR_s, pk_un (by decide), upR_s, pk_un (by decide)]; exact h2.2.2.2.2.1
                   · rw [upR_s, pk_un (by decide), upR_s, pk_un (by decide)]; exact h2.2.2.2.2.2.1
                   · rw [upR_s, pk_un (by decide), upR_s, pk_un (by decide)]; exact h2.2.2.2.2.2.2)) (fun I4 h4b => ?_)
            refine g_iconst (v := 0) dX0_weigh_112 (by decide) ?_
            refine g_istore dX0_weigh_113 (by decide) ?_
            show Go _ _ _ _ _ _ [_, _, _, _, _] _ _ _
            refine go_mem (fun p I5 => Fr [38, 39] I4 I5 ∧ (∀ q, q < P.1 → ∀ e, e < 5 → I5 38 (5 * q + e) = nI (smF (wE P s q e) (if q < p then c + 1 else c))) ∧ ∀ q, q < P.1 → I5 39 q = nI (cntP (ft0 P s q) (if q < p then c + 1 else c))) P.1 (fun p I5 => Go X (d + 1) 66 M_X0_weigh 66 115 [.ref 36, .int (nI c), .int (nI (wtC P.1 c)), .int (nI (cntO c P.1)), .int (nI p)] [] (I5, J, rf0) (RV (fun m => ∃ I', m = (I', J, rf0) ∧ Fr [36, 38, 39] I I' ∧ BelI P s (c + 1) I'))) (fun p I5 hp h9 kk => ?_) (fun I5 h9 => ?_) _ ?_
            · skip
              refine g_iload dX0_weigh_115 rfl ?_
              refine g_aload_n dX0_weigh_117 rfl ?_
              refine t_getR dX0_weigh_118 fl_X0_21 rfl (by decide) rfl (by decide) rfl ?_
              refine t_getI dX0_weigh_121 fl_X0_54 rfl (by decide) rfl (by decide) ?_
              rw [h9.1 22 (by decide), h4b.1 22 (by decide), hP.1]
              refine g_icmp_ge (tgt := 177) dX0_weigh_124 (by decide) (fun c124 => ?_) (fun c124 => ?_)
              · exact absurd (nI_lt hp (by omega)) (Int32.not_lt.mpr c124)
              · skip
                refine g_aload_n dX0_weigh_127 rfl ?_
                refine t_getR dX0_weigh_128 fl_X0_15 rfl (by decide) rfl (by decide) rfl ?_
                refine g_iload dX0_weigh_131 rfl ?_
                refine g_iconst (v := 5) dX0_weigh_133 (by decide) ?_
                refine g_imul dX0_weigh_134 ?_
                refine g_aload_n dX0_weigh_135 rfl ?_
                refine t_getR dX0_weigh_136 fl_X0_9 rfl (by decide) rfl (by decide) rfl ?_
                refine g_iload dX0_weigh_139 rfl ?_
                refine t_iald dX0_weigh_141 rfl (by decide) (in_nI (by omega) (by decide)) ?_
                rw [cl_nI (by omega), h9.1 37 (by decide), h4b.1 37 (by decide), ho p (by omega)]
                refine g_iadd dX0_weigh_142 ?_
                refine g_iconst (v := 2) dX0_weigh_143 (by decide) ?_
                refine g_iadd dX0_weigh_144 ?_
                refine g_dup2 dX0_weigh_145 rfl rfl ?_
                refine t_iald dX0_weigh_146 rfl (by decide) (by rw [ixw]; exact in_nI (by have := dC_lt c p; omega) (by decide)) ?_
                rw [ixw, cl_nI (by have := dC_lt c p; omega)]
                refine g_iload_n dX0_weigh_147 rfl ?_
                refine g_iadd dX0_weigh_148 ?_
                refine t_iast dX0_weigh_149 rfl (by decide) (in_nI (by have := dC_lt c p; omega) (by decide)) ?_
                rw [show I5 38 (5 * p + dC c p) = nI (smF (wE P s p (dC c p)) c) by rw [h9.2.1 p (by omega) (dC c p) (dC_lt c p), if_neg (by omega)], nI_add, cl_nI (by have := dC_lt c p; omega)]
                refine g_abs (fun I6 => Fr [38, 39] I4 I6 ∧ (∀ q, q < P.1 → ∀ e, e < 5 → I6 38 (5 * q + e) = nI (smF (wE P s q e) (if q < p + 1 then c + 1 else c))) ∧ I6 39 = I5 39) ⟨h9.1.up (by decide), fun q hq e he => ?_, by rw [upR_n (by decide)]⟩ (fun I6 h6 => ?_)
                · have hd9 := dC_lt c p
                  rw [upR_s]
                  by_cases e1 : q = p
                  · subst e1
                    rw [if_pos (by omega)]
                    by_cases e2 : e = dC c q
                    · rw [e2, pk_us, smF_s, show wE P s q (dC c q) c = wtC P.1 c by unfold wE; rw [if_pos rfl, hw0]]
                    · rw [pk_un (by omega), h9.2.1 q hq e he, if_neg (by omega), smF_s, show wE P s q e c = 0 from if_neg (fun z => e2 z.symm)]; rfl
                  · rw [pk_un (by omega), h9.2.1 q hq e he]
                    by_cases e2 : q < p
                    · rw [if_pos e2, if_pos (by omega)]
                    · rw [if_neg e2, if_neg (by omega)]
                refine g_aload_n dX0_weigh_150 rfl ?_
                refine t_getR dX0_weigh_151 fl_X0_9 rfl (by decide) rfl (by decide) rfl ?_
                refine g_iload dX0_weigh_154 rfl ?_
                refine t_iald dX0_weigh_156 rfl (by decide) (in_nI (by omega) (by decide)) ?_
                rw [cl_nI (by omega), h6.1 37 (by decide), h4b.1 37 (by decide), ho p (by omega)]
                refine g_if_ne (tgt := 171) dX0_weigh_157 (by decide) (fun c157 => ?_) (fun c157 => ?_)
                · skip
                  refine g_iinc dX0_weigh_171 rfl (by decide) ?_
                  show Go _ _ _ _ _ _ [_, _, _, _, _] _ _ _
                  refine g_goto (tgt := 115) dX0_weigh_174 (by decide) ?_
                  rw [nI_inc]
                  first
                    | (rw [cl_nI (by omega), h6.2.2]
                       have h0 : dC c p = 2 := oC_0.mp c157
                       refine kk _ ⟨h6.1.up (by decide), fun q hq e he => by rw [upR_n (by decide)]; exact h6.2.1 q hq e he, fun q hq => ?_⟩
                       rw [upR_s]
                       by_cases e1 : q = p
                       · subst e1
                         rw [pk_us, if_pos (by omega), cntP_s, show ft0 P s q c = true by unfold ft0; rw [hft, decide_eq_true h0]; rfl]; rfl
                       · rw [pk_un e1, h9.2.2 q hq]
                         by_cases e2 : q < p
                         · rw [if_pos e2, if_pos (by omega)]
                         · rw [if_neg e2, if_neg (by omega)])
                    | (have h0 : ¬ dC c p = 2 := fun q => c157 (oC_0.mpr q)
                       refine kk _ ⟨h6.1, h6.2.1, fun q hq => ?_⟩
                       rw [h6.2.2, h9.2.2 q hq]
                       by_cases e1 : q = p
                       · subst e1
                         rw [if_neg (by omega), if_pos (by omega), cntP_s, show ft0 P s q c = false by unfold ft0; rw [decide_eq_false h0, Bool.and_false]]; rfl
                       · by_cases e2 : q < p
                         · rw [if_pos e2, if_pos (by omega)]
                         · rw [if_neg e2, if_neg (by omega)])
                    | fail "no way"
                · skip
                  refine g_aload_n dX0_weigh_160 rfl ?_
                  refine t_getR dX0_weigh_161 fl_X0_18 rfl (by decide) rfl (by decide) rfl ?_
                  refine g_iload dX0_weigh_164 rfl ?_
                  refine g_dup2 dX0_weigh_166 rfl rfl ?_
                  refine t_iald dX0_weigh_167 rfl (by decide) (in_nI (by omega) (by decide)) ?_
                  rw [cl_nI (by omega), h6.2.2, h9.2.2 p (by omega), if_neg (by omega)]
                  refine g_iconst (v := 1) dX0_weigh_168 (by decide) ?_
                  refine g_iadd dX0_weigh_169 ?_
                  rw [nI_1]
                  refine t_iast dX0_weigh_170 rfl (by decide) (in_nI (by omega) (by decide)) ?_
                  refine g_iinc dX0_weigh_171 rfl (by decide) ?_
                  show Go _ _ _ _ _ _ [_, _, _, _, _] _ _ _
                  refine g_goto (tgt := 115) dX0_weigh_174 (by decide) ?_
                  rw [nI_inc]
                  first
                    | (rw [cl_nI (by omega), h6.2.2]
                       have h0 : dC c p = 2 := oC_0.mp c157
                       refine kk _ ⟨h6.1.up (by decide), fun q hq e he => by rw [upR_n (by decide)]; exact h6.2.1 q hq e he, fun q hq => ?_⟩
                       rw [upR_s]
                       by_cases e1 : q = p
                       · subst e1
                         rw [pk_us, if_pos (by omega), cntP_s, show ft0 P s q c = true by unfold ft0; rw [hft, decide_eq_true h0]; rfl]; rfl
                       · rw [pk_un e1, h9.2.2 q hq]
                         by_cases e2 : q < p
                         · rw [if_pos e2, if_pos (by omega)]
                         · rw [if_neg e2, if_neg (by omega)])
                    | (have h0 : ¬ dC c p = 2 := fun q => c157 (oC_0.mpr q)
                       refine kk _ ⟨h6.1, h6.2.1, fun q hq => ?_⟩
                       rw [h6.2.2, h9.2.2 q hq]
                       by_cases e1 : q = p
                       · subst e1
                         rw [if_neg (by omega), if_pos (by omega), cntP_s, show ft0 P s q c = false by unfold ft0; rw [decide_eq_false h0, Bool.and_false]]; rfl
                       · by_cases e2 : q < p
                         · rw [if_pos e2, if_pos (by omega)]
                         · rw [if_neg e2, if_neg (by omega)])
                    | fail "no way"
            · skip
              refine g_iload dX0_weigh_115 rfl ?_
              refine g_aload_n dX0_weigh_117 rfl ?_
              refine t_getR dX0_weigh_118 fl_X0_21 rfl (by decide) rfl (by decide) rfl ?_
              refine t_getI dX0_weigh_121 fl_X0_54 rfl (by decide) rfl (by decide) ?_
              rw [h9.1 22 (by decide), h4b.1 22 (by decide), hP.1]
              refine g_icmp_ge (tgt := 177) dX0_weigh_124 (by decide) (fun c124 => ?_) (fun c124 => ?_)
              · skip
                refine g_vret dX0_weigh_177 ?_
                refine ⟨I5, rfl, (h4b.1.mono (by decide)).trans (h9.1.mono (by decide)), ?_, ?_, ?_, ?_, ?_, ?_, fun q hq e he => ?_, fun q hq => ?_⟩
                · rw [h9.1 36 (by decide)]; exact h4b.2.1
                · rw [h9.1 36 (by decide)]; exact h4b.2.2.2.2.1
                · rw [h9.1 36 (by decide)]; exact h4b.2.2.2.1
                · rw [h9.1 36 (by decide)]; exact h4b.2.2.1
                · rw [h9.1 36 (by decide)]; exact h4b.2.2.2.2.2.1
                · rw [h9.1 36 (by decide)]; exact h4b.2.2.2.2.2.2
                · rw [h9.2.1 q hq e he, if_pos hq]
                · rw [h9.2.2 q hq, if_pos hq]
              · exact absurd (Int32.le_refl _) c124
            · exact ⟨Fr.rf, fun q hq e he => by rw [h4b.1 38 (by decide), if_neg (Nat.not_lt_zero q)]; exact hB.2.2.2.2.2.2.1 q hq e he, fun q hq => by rw [h4b.1 39 (by decide), if_neg (Nat.not_lt_zero q)]; exact hB.2.2.2.2.2.2.2 q hq⟩
          · skip
            refine g_aload_n dX0_weigh_102 rfl ?_
            refine g_iload_n dX0_weigh_103 rfl ?_
            refine t_putI dX0_weigh_104 fl_X0_39 rfl (by decide) rfl (by decide) ?_
            refine g_aload_n dX0_weigh_107 rfl ?_
            refine g_iload_n dX0_weigh_108 rfl ?_
            refine t_putI dX0_weigh_109 fl_X0_36 rfl (by decide) rfl (by decide) ?_
            refine g_abs (fun I4 => Fr [36] I I4 ∧ I4 36 5 = nI (hvF P s (c + 1)).2 ∧ I4 36 8 = oI (hvF P s (c + 1)).1 ∧ I4 36 7 = oI (fstN (ftB P s) (c + 1)) ∧ I4 36 6 = nI (cntP (ftB P s) (c + 1)) ∧ I4 36 9 = nI (smF (fW P s) (c + 1)) ∧ I4 36 10 = nI (smF (nobW P s) (c + 1))) (by
              rw [hvF_s, hw0]
              first
                | (have h0 : ¬ (hvF P s c).2 < wtC P.1 c := fun q => absurd (nI_lt q (by omega)) (Int32.not_lt.mpr c99)
                   rw [if_neg h0]
                   exact ⟨h2.1, h2.2.1.trans hB.1, h2.2.2.1.trans hB.2.2.2.1, h2.2.2.2⟩)
                | (have h0 : (hvF P s c).2 < wtC P.1 c := (nI_ltI (by omega) (by omega)).mp (Int32.not_le.mp c99)
                   rw [if_pos h0]
                   refine ⟨(h2.1.up (by decide)).up (by decide), ?_, ?_, ?_, ?_, ?_, ?_⟩
                   · rw [upR_s, pk_un (by decide), upR_s, pk_us]
                   · rw [upR_s, pk_us]; rfl
                   · rw [upR_s, pk_un (by decide), upR_s, pk_un (by decide)]; exact h2.2.2.2.1
                   · rw [upR_s, pk_un (by decide), upR_s, pk_un (by decide)]; exact h2.2.2.2.2.1
                   · rw [upR_s, pk_un (by decide), upR_s, pk_un (by decide)]; exact h2.2.2.2.2.2.1
                   · rw [upR_s, pk_un (by decide), upR_s, pk_un (by decide)]; exact h2.2.2.2.2.2.2)) (fun I4 h4b => ?_)
            refine g_iconst (v := 0) dX0_weigh_112 (by decide) ?_
            refine g_istore dX0_weigh_113 (by decide) ?_
            show Go _ _ _ _ _ _ [_, _, _, _, _] _ _ _
            refine go_mem (fun p I5 => Fr [38, 39] I4 I5 ∧ (∀ q, q < P.1 → ∀ e, e < 5 → I5 38 (5 * q + e) = nI (smF (wE P s q e) (if q < p then c + 1 else c))) ∧ ∀ q, q < P.1 → I5 39 q = nI (cntP (ft0 P s q) (if q < p then c + 1 else c))) P.1 (fun p I5 => Go X (d + 1) 66 M_X0_weigh 66 115 [.ref 36, .int (nI c), .int (nI (wtC P.1 c)), .int (nI (cntO c P.1)), .int (nI p)] [] (I5, J, rf0) (RV (fun m => ∃ I', m = (I', J, rf0) ∧ Fr [36, 38, 39] I I' ∧ BelI P s (c + 1) I'))) (fun p I5 hp h9 kk => ?_) (fun I5 h9 => ?_) _ ?_
            · skip
              refine g_iload dX0_weigh_115 rfl ?_
              refine g_aload_n dX0_weigh_117 rfl ?_
              refine t_getR dX0_weigh_118 fl_X0_21 rfl (by decide) rfl (by decide) rfl ?_
              refine t_getI dX0_weigh_121 fl_X0_54 rfl (by decide) rfl (by decide) ?_
              rw [h9.1 22 (by decide), h4b.1 22 (by decide), hP.1]
              refine g_icmp_ge (tgt := 177) dX0_weigh_124 (by decide) (fun c124 => ?_) (fun c124 => ?_)
              · exact absurd (nI_lt hp (by omega)) (Int32.not_lt.mpr c124)
              · skip
                refine g_aload_n dX0_weigh_127 rfl ?_
                refine t_getR dX0_weigh_128 fl_X0_15 rfl (by decide) rfl (by decide) rfl ?_
                refine g_iload dX0_weigh_131 rfl ?_
                refine g_iconst (v := 5) dX0_weigh_133 (by decide) ?_
                refine g_imul dX0_weigh_134 ?_
                refine g_aload_n dX0_weigh_135 rfl ?_
                refine t_getR dX0_weigh_136 fl_X0_9 rfl (by decide) rfl (by decide) rfl ?_
                refine g_iload dX0_weigh_139 rfl ?_
                refine t_iald dX0_weigh_141 rfl (by decide) (in_nI (by omega) (by decide)) ?_
                rw [cl_nI (by omega), h9.1 37 (by decide), h4b.1 37 (by decide), ho p (by omega)]
                refine g_iadd dX0_weigh_142 ?_
                refine g_iconst (v := 2) dX0_weigh_143 (by decide) ?_
                refine g_iadd dX0_weigh_144 ?_
                refine g_dup2 dX0_weigh_145 rfl rfl ?_
                refine t_iald dX0_weigh_146 rfl (by decide) (by rw [ixw]; exact in_nI (by have := dC_lt c p; omega) (by decide)) ?_
                rw [ixw, cl_nI (by have := dC_lt c p; omega)]
                refine g_iload_n dX0_weigh_147 rfl ?_
                refine g_iadd dX0_weigh_148 ?_
                refine t_iast dX0_weigh_149 rfl (by decide) (in_nI (by have := dC_lt c p; omega) (by decide)) ?_
                rw [show I5 38 (5 * p + dC c p) = nI (smF (wE P s p (dC c p)) c) by rw [h9.2.1 p (by omega) (dC c p) (dC_lt c p), if_neg (by omega)], nI_add, cl_nI (by have := dC_lt c p; omega)]
                refine g_abs (fun I6 => Fr [38, 39] I4 I6 ∧ (∀ q, q < P.1 → ∀ e, e < 5 → I6 38 (5 * q + e) = nI (smF (wE P s q e) (if q < p + 1 then c + 1 else c))) ∧ I6 39 = I5 39) ⟨h9.1.up (by decide), fun q hq e he => ?_, by rw [upR_n (by decide)]⟩ (fun I6 h6 => ?_)
                · have hd9 := dC_lt c p
                  rw [upR_s]
                  by_cases e1 : q = p
                  · subst e1
                    rw [if_pos (by omega)]
                    by_cases e2 : e = dC c q
                    · rw [e2, pk_us, smF_s, show wE P s q (dC c q) c = wtC P.1 c by unfold wE; rw [if_pos rfl, hw0]]
                    · rw [pk_un (by omega), h9.2.1 q hq e he, if_neg (by omega), smF_s, show wE P s q e c = 0 from if_neg (fun z => e2 z.symm)]; rfl
                  · rw [pk_un (by omega), h9.2.1 q hq e he]
                    by_cases e2 : q < p
                    · rw [if_pos e2, if_pos (by omega)]
                    · rw [if_neg e2, if_neg (by omega)]
                refine g_aload_n dX0_weigh_150 rfl ?_
                refine t_getR dX0_weigh_151 fl_X0_9 rfl (by decide) rfl (by decide) rfl ?_
                refine g_iload dX0_weigh_154 rfl ?_
                refine t_iald dX0_weigh_156 rfl (by decide) (in_nI (by omega) (by decide)) ?_
                rw [cl_nI (by omega), h6.1 37 (by decide), h4b.1 37 (by decide), ho p (by omega)]
                refine g_if_ne (tgt := 171) dX0_weigh_157 (by decide) (fun c157 => ?_) (fun c157 => ?_)
                · skip
                  refine g_iinc dX0_weigh_171 rfl (by decide) ?_
                  show Go _ _ _ _ _ _ [_, _, _, _, _] _ _ _
                  refine g_goto (tgt := 115) dX0_weigh_174 (by decide) ?_
                  rw [nI_inc]
                  first
                    | (rw [cl_nI (by omega), h6.2.2]
                       have h0 : dC c p = 2 := oC_0.mp c157
                       refine kk _ ⟨h6.1.up (by decide), fun q hq e he => by rw [upR_n (by decide)]; exact h6.2.1 q hq e he, fun q hq => ?_⟩
                       rw [upR_s]
                       by_cases e1 : q = p
                       · subst e1
                         rw [pk_us, if_pos (by omega), cntP_s, show ft0 P s q c = true by unfold ft0; rw [hft, decide_eq_true h0]; rfl]; rfl
                       · rw [pk_un e1, h9.2.2 q hq]
                         by_cases e2 : q < p
                         · rw [if_pos e2, if_pos (by omega)]
                         · rw [if_neg e2, if_neg (by omega)])
                    | (have h0 : ¬ dC c p = 2 := fun q => c157 (oC_0.mpr q)
                       refine kk _ ⟨h6.1, h6.2.1, fun q hq => ?_⟩
                       rw [h6.2.2, h9.2.2 q hq]
                       by_cases e1 : q = p
                       · subst e1
                         rw [if_neg (by omega), if_pos (by omega), cntP_s, show ft0 P s q c = false by unfold ft0; rw [decide_eq_false h0, Bool.and_false]]; rfl
                       · by_cases e2 : q < p
                         · rw [if_pos e2, if_pos (by omega)]
                         · rw [if_neg e2, if_neg (by omega)])
                    | fail "no way"
                · skip
                  refine g_aload_n dX0_weigh_160 rfl ?_
                  refine t_getR dX0_weigh_161 fl_X0_18 rfl (by decide) rfl (by decide) rfl ?_
                  refine g_iload dX0_weigh_164 rfl ?_
                  refine g_dup2 dX0_weigh_166 rfl rfl ?_
                  refine t_iald dX0_weigh_167 rfl (by decide) (in_nI (by omega) (by decide)) ?_
                  rw [cl_nI (by omega), h6.2.2, h9.2.2 p (by omega), if_neg (by omega)]
                  refine g_iconst (v := 1) dX0_weigh_168 (by decide) ?_
                  refine g_iadd dX0_weigh_169 ?_
                  rw [nI_1]
                  refine t_iast dX0_weigh_170 rfl (by decide) (in_nI (by omega) (by decide)) ?_
                  refine g_iinc dX0_weigh_171 rfl (by decide) ?_
                  show Go _ _ _ _ _ _ [_, _, _, _, _] _ _ _
                  refine g_goto (tgt := 115) dX0_weigh_174 (by decide) ?_
                  rw [nI_inc]
                  first
                    | (rw [cl_nI (by omega), h6.2.2]
                       have h0 : dC c p = 2 := oC_0.mp c157
                       refine kk _ ⟨h6.1.up (by decide), fun q hq e he => by rw [upR_n (by decide)]; exact h6.2.1 q hq e he, fun q hq => ?_⟩
                       rw [upR_s]
                       by_cases e1 : q = p
                       · subst e1
                         rw [pk_us, if_pos (by omega), cntP_s, show ft0 P s q c = true by unfold ft0; rw [hft, decide_eq_true h0]; rfl]; rfl
                       · rw [pk_un e1, h9.2.2 q hq]
                         by_cases e2 : q < p
                         · rw [if_pos e2, if_pos (by omega)]
                         · rw [if_neg e2, if_neg (by omega)])
                    | (have h0 : ¬ dC c p = 2 := fun q => c157 (oC_0.mpr q)
                       refine kk _ ⟨h6.1, h6.2.1, fun q hq => ?_⟩
                       rw [h6.2.2, h9.2.2 q hq]
                       by_cases e1 : q = p
                       · subst e1
                         rw [if_neg (by omega), if_pos (by omega), cntP_s, show ft0 P s q c = false by unfold ft0; rw [decide_eq_false h0, Bool.and_false]]; rfl
                       · by_cases e2 : q < p
                         · rw [if_pos e2, if_pos (by omega)]
                         · rw [if_neg e2, if_neg (by omega)])
                    | fail "no way"
            · skip
              refine g_iload dX0_weigh_115 rfl ?_
              refine g_aload_n dX0_weigh_117 rfl ?_
              refine t_getR dX0_weigh_118 fl_X0_21 rfl (by decide) rfl (by decide) rfl ?_
              refine t_getI dX0_weigh_121 fl_X0_54 rfl (by decide) rfl (by decide) ?_
              rw [h9.1 22 (by decide), h4b.1 22 (by decide), hP.1]
              refine g_icmp_ge (tgt := 177) dX0_weigh_124 (by decide) (fun c124 => ?_) (fun c124 => ?_)
              · skip
                refine g_vret dX0_weigh_177 ?_
                refine ⟨I5, rfl, (h4b.1.mono (by decide)).trans (h9.1.mono (by decide)), ?_, ?_, ?_, ?_, ?_, ?_, fun q hq e he => ?_, fun q hq => ?_⟩
                · rw [h9.1 36 (by decide)]; exact h4b.2.1
                · rw [h9.1 36 (by decide)]; exact h4b.2.2.2.2.1
                · rw [h9.1 36 (by decide)]; exact h4b.2.2.2.1
                · rw [h9.1 36 (by decide)]; exact h4b.2.2.1
                · rw [h9.1 36 (by decide)]; exact h4b.2.2.2.2.2.1
                · rw [h9.1 36 (by decide)]; exact h4b.2.2.2.2.2.2
                · rw [h9.2.1 q hq e he, if_pos hq]
                · rw [h9.2.2 q hq, if_pos hq]
              · exact absurd (Int32.le_refl _) c124
            · exact ⟨Fr.rf, fun q hq e he => by rw [h4b.1 38 (by decide), if_neg (Nat.not_lt_zero q)]; exact hB.2.2.2.2.2.2.1 q hq e he, fun q hq => by rw [h4b.1 39 (by decide), if_neg (Nat.not_lt_zero q)]; exact hB.2.2.2.2.2.2.2 q hq⟩
        · skip
          refine g_aload_n dX0_weigh_89 rfl ?_
          refine g_iload_n dX0_weigh_90 rfl ?_
          refine t_putI dX0_weigh_91 fl_X0_45 rfl (by decide) rfl (by decide) ?_
          refine g_abs (fun I2 => Fr [36] I I2 ∧ I2 36 5 = I 36 5 ∧ I2 36 8 = I 36 8 ∧ I2 36 7 = oI (fstN (ftB P s) (c + 1)) ∧ I2 36 6 = nI (cntP (ftB P s) (c + 1)) ∧ I2 36 9 = nI (smF (fW P s) (c + 1)) ∧ I2 36 10 = nI (smF (nobW P s) (c + 1))) (by
            have e6 : cntP (ftB P s) (c + 1) = cntP (ftB P s) c + 1 := by rw [cntP_s, hft]; rfl
            have e9 : smF (fW P s) (c + 1) = smF (fW P s) c + wtC P.1 c := by rw [smF_s, hw0]
            rw [e6, e9]
            first
              | (have h0 : cntO c P.1 = 0 := (nI_eq (by have := cntP_le (fun q => decide (¬ dC c q = 2)) P.1; unfold cntO; omega) (by decide)).mp (show nI (cntO c P.1) = nI 0 from c86)
                 refine ⟨((h1.1.up (by decide)).up (by decide)).up (by decide), ?_, ?_, ?_, ?_, ?_, ?_⟩
                 · rw [upR_s, pk_un (by decide), upR_s, pk_un (by decide), upR_s, pk_un (by decide)]; exact h1.2.1 5 (by decide)
                 · rw [upR_s, pk_un (by decide), upR_s, pk_un (by decide), upR_s, pk_un (by decide)]; exact h1.2.1 8 (by decide)
                 · rw [upR_s, pk_un (by decide), upR_s, pk_un (by decide), upR_s, pk_un (by decide)]; exact h1.2.2
                 · rw [upR_s, pk_un (by decide), upR_s, pk_un (by decide), upR_s, pk_us]
                 · rw [upR_s, pk_un (by decide), upR_s, pk_us]
                 · rw [upR_s, pk_us, smF_s, nob_0 hc h0, show nobW P s c = wtC P.1 c by unfold nobW; rw [if_pos h0, hw0], Nat.zero_add])
              | (have h0 : ¬ cntO c P.1 = 0 := fun q => c86 (by show nI (cntO c P.1) = 0; rw [q]; rfl)
                 refine ⟨(h1.1.up (by decide)).up (by decide), ?_, ?_, ?_, ?_, ?_, ?_⟩
                 · rw [upR_s, pk_un (by decide), upR_s, pk_un (by decide)]; exact h1.2.1 5 (by decide)
                 · rw [upR_s, pk_un (by decide), upR_s, pk_un (by decide)]; exact h1.2.1 8 (by decide)
                 · rw [upR_s, pk_un (by decide), upR_s, pk_un (by decide)]; exact h1.2.2
                 · rw [upR_s, pk_un (by decide), upR_s, pk_us]
                 · rw [upR_s, pk_us]
                 · rw [upR_s, pk_un (by decide), upR_s, pk_un (by decide), h1.2.1 10 (by decide), hB.2.2.2.2.2.1, smF_s, show nobW P s c = 0 from if_neg h0]; rfl)) (fun I2 h2 => ?_)
          refine g_iload_n dX0_weigh_94 rfl ?_
          refine g_aload_n dX0_weigh_95 rfl ?_
          refine t_getI dX0_weigh_96 fl_X0_39 rfl (by decide) rfl (by decide) ?_
          rw [h2.2.1, hB.1]
          refine g_icmp_le (tgt := 112) dX0_weigh_99 (by decide) (fun c99 => ?_) (fun c99 => ?_)
          · skip
            refine g_abs (fun I4 => Fr [36] I I4 ∧ I4 36 5 = nI (hvF P s (c + 1)).2 ∧ I4 36 8 = oI (hvF P s (c + 1)).1 ∧ I4 36 7 = oI (fstN (ftB P s) (c + 1)) ∧ I4 36 6 = nI (cntP (ftB P s) (c + 1)) ∧ I4 36 9 = nI (smF (fW P s) (c + 1)) ∧ I4 36 10 = nI (smF (nobW P s) (c + 1))) (by
              rw [hvF_s, hw0]
              first
                | (have h0 : ¬ (hvF P s c).2 < wtC P.1 c := fun q => absurd (nI_lt q (by omega)) (Int32.not_lt.mpr c99)
                   rw [if_neg h0]
                   exact ⟨h2.1, h2.2.1.trans hB.1, h2.2.2.1.trans hB.2.2.2.1, h2.2.2.2⟩)
                | (have h0 : (hvF P s c).2 < wtC P.1 c := (nI_ltI (by omega) (by omega)).mp (Int32.not_le.mp c99)
                   rw [if_pos h0]
                   refine ⟨(h2.1.up (by decide)).up (by decide), ?_, ?_, ?_, ?_, ?_, ?_⟩
                   · rw [upR_s, pk_un (by decide), upR_s, pk_us]
                   · rw [upR_s, pk_us]; rfl
                   · rw [upR_s, pk_un (by decide), upR_s, pk_un (by decide)]; exact h2.2.2.2.1
                   · rw [upR_s, pk_un (by decide), upR_s, pk_un (by decide)]; exact h2.2.2.2.2.1
                   · rw [upR_s, pk_un (by decide), upR_s, pk_un (by decide)]; exact h2.2.2.2.2.2.1
                   · rw [upR_s, pk_un (by decide), upR_s, pk_un (by decide)]; exact h2.2.2.2.2.2.2)) (fun I4 h4b => ?_)
            refine g_iconst (v := 0) dX0_weigh_112 (by decide) ?_
            refine g_istore dX0_weigh_113 (by decide) ?_
            show Go _ _ _ _ _ _ [_, _, _, _, _] _ _ _
            refine go_mem (fun p I5 => Fr [38, 39] I4 I5 ∧ (∀ q, q < P.1 → ∀ e, e < 5 → I5 38 (5 * q + e) = nI (smF (wE P s q e) (if q < p then c + 1 else c))) ∧ ∀ q, q < P.1 → I5 39 q = nI (cntP (ft0 P s q) (if q < p then c + 1 else c))) P.1 (fun p I5 => Go X (d + 1) 66 M_X0_weigh 66 115 [.ref 36, .int (nI c), .int (nI (wtC P.1 c)), .int (nI (cntO c P.1)), .int (nI p)] [] (I5, J, rf0) (RV (fun m => ∃ I', m = (I', J, rf0) ∧ Fr [36, 38, 39] I I' ∧ BelI P s (c + 1) I'))) (fun p I5 hp h9 kk => ?_) (fun I5 h9 => ?_) _ ?_
            · skip
              refine g_iload dX0_weigh_115 rfl ?_
              refine g_aload_n dX0_weigh_117 rfl ?_
              refine t_getR dX0_weigh_118 fl_X0_21 rfl (by decide) rfl (by decide) rfl ?_
              refine t_getI dX0_weigh_121 fl_X0_54 rfl (by decide) rfl (by decide) ?_
              rw [h9.1 22 (by decide), h4b.1 22 (by decide), hP.1]
              refine g_icmp_ge (tgt := 177) dX0_weigh_124 (by decide) (fun c124 => ?_) (fun c124 => ?_)
              · exact absurd (nI_lt hp (by omega)) (Int32.not_lt.mpr c124)
              · skip
                refine g_aload_n dX0_weigh_127 rfl ?_
                refine t_getR dX0_weigh_128 fl_X0_15 rfl (by decide) rfl (by decide) rfl ?_
                refine g_iload dX0_weigh_131 rfl ?_
                refine g_iconst (v := 5) dX0_weigh_133 (by decide) ?_
                refine g_imul dX0_weigh_134 ?_
                refine g_aload_n dX0_weigh_135 rfl ?_
                refine t_getR dX0_weigh_136 fl_X0_9 rfl (by decide) rfl (by decide) rfl ?_
                refine g_iload dX0_weigh_139 rfl ?_
                refine t_iald dX0_weigh_141 rfl (by decide) (in_nI (by omega) (by decide)) ?_
                rw [cl_nI (by omega), h9.1 37 (by decide), h4b.1 37 (by decide), ho p (by omega)]
                refine g_iadd dX0_weigh_142 ?_
                refine g_iconst (v := 2) dX0_weigh_143 (by decide) ?_
                refine g_iadd dX0_weigh_144 ?_
                refine g_dup2 dX0_weigh_145 rfl rfl ?_
                refine t_iald dX0_weigh_146 rfl (by decide) (by rw [ixw]; exact in_nI (by have := dC_lt c p; omega) (by decide)) ?_
                rw [ixw, cl_nI (by have := dC_lt c p; omega)]
                refine g_iload_n dX0_weigh_147 rfl ?_
                refine g_iadd dX0_weigh_148 ?_
                refine t_iast dX0_weigh_149 rfl (by decide) (in_nI (by have := dC_lt c p; omega) (by decide)) ?_
                rw [show I5 38 (5 * p + dC c p) = nI (smF (wE P s p (dC c p)) c) by rw [h9.2.1 p (by omega) (dC c p) (dC_lt c p), if_neg (by omega)], nI_add, cl_nI (by have := dC_lt c p; omega)]
                refine g_abs (fun I6 => Fr [38, 39] I4 I6 ∧ (∀ q, q < P.1 → ∀ e, e < 5 → I6 38 (5 * q + e) = nI (smF (wE P s q e) (if q < p + 1 then c + 1 else c))) ∧ I6 39 = I5 39) ⟨h9.1.up (by decide), fun q hq e he => ?_, by rw [upR_n (by decide)]⟩ (fun I6 h6 => ?_)
                · have hd9 := dC_lt c p
                  rw [upR_s]
                  by_cases e1 : q = p
                  · subst e1
                    rw [if_pos (by omega)]
                    by_cases e2 : e = dC c q
                    · rw [e2, pk_us, smF_s, show wE P s q (dC c q) c = wtC P.1 c by unfold wE; rw [if_pos rfl, hw0]]
                    · rw [pk_un (by omega), h9.2.1 q hq e he, if_neg (by omega), smF_s, show wE P s q e c = 0 from if_neg (fun z => e2 z.symm)]; rfl
                  · rw [pk_un (by omega), h9.2.1 q hq e he]
                    by_cases e2 : q < p
                    · rw [if_pos e2, if_pos (by omega)]
                    · rw [if_neg e2, if_neg (by omega)]
                refine g_aload_n dX0_weigh_150 rfl ?_
                refine t_getR dX0_weigh_151 fl_X0_9 rfl (by decide) rfl (by decide) rfl ?_
                refine g_iload dX0_weigh_154 rfl ?_
                refine t_iald dX0_weigh_156 rfl (by decide) (in_nI (by omega) (by decide)) ?_
                rw [cl_nI (by omega), h6.1 37 (by decide), h4b.1 37 (by decide), ho p (by omega)]
                refine g_if_ne (tgt := 171) dX0_weigh_157 (by decide) (fun c157 => ?_) (fun c157 => ?_)
                · skip
                  refine g_iinc dX0_weigh_171 rfl (by decide) ?_
                  show Go _ _ _ _ _ _ [_, _, _, _, _] _ _ _
                  refine g_goto (tgt := 115) dX0_weigh_174 (by decide) ?_
                  rw [nI_inc]
                  first
                    | (rw [cl_nI (by omega), h6.2.2]
                       have h0 : dC c p = 2 := oC_0.mp c157
                       refine kk _ ⟨h6.1.up (by decide), fun q hq e he => by rw [upR_n (by decide)]; exact h6.2.1 q hq e he, fun q hq => ?_⟩
                       rw [upR_s]
                       by_cases e1 : q = p
                       · subst e1
                         rw [pk_us, if_pos (by omega), cntP_s, show ft0 P s q c = true by unfold ft0; rw [hft, decide_eq_true h0]; rfl]; rfl
                       · rw [pk_un e1, h9.2.2 q hq]
                         by_cases e2 : q < p
                         · rw [if_pos e2, if_pos (by omega)]
                         · rw [if_neg e2, if_neg (by omega)])
                    | (have h0 : ¬ dC c p = 2 := fun q => c157 (oC_0.mpr q)
                       refine kk _ ⟨h6.1, h6.2.1, fun q hq => ?_⟩
                       rw [h6.2.2, h9.2.2 q hq]
                       by_cases e1 : q = p
                       · subst e1
                         rw [if_neg (by omega), if_pos (by omega), cntP_s, show ft0 P s q c = false by unfold ft0; rw [decide_eq_false h0, Bool.and_false]]; rfl
                       · by_cases e2 : q < p
                         · rw [if_pos e2, if_pos (by omega)]
                         · rw [if_neg e2, if_neg (by omega)])
                    | fail "no way"
                · skip
                  refine g_aload_n dX0_weigh_160 rfl ?_
                  refine t_getR dX0_weigh_161 fl_X0_18 rfl (by decide) rfl (by decide) rfl ?_
                  refine g_iload dX0_weigh_164 rfl ?_
                  refine g_dup2 dX0_weigh_166 rfl rfl ?_
                  refine t_iald dX0_weigh_167 rfl (by decide) (in_nI (by omega) (by decide)) ?_
                  rw [cl_nI (by omega), h6.2.2, h9.2.2 p (by omega), if_neg (by omega)]
                  refine g_iconst (v := 1) dX0_weigh_168 (by decide) ?_
                  refine g_iadd dX0_weigh_169 ?_
                  rw [nI_1]
                  refine t_iast dX0_weigh_170 rfl (by decide) (in_nI (by omega) (by decide)) ?_
                  refine g_iinc dX0_weigh_171 rfl (by decide) ?_
                  show Go _ _ _ _ _ _ [_, _, _, _, _] _ _ _
                  refine g_goto (tgt := 115) dX0_weigh_174 (by decide) ?_
                  rw [nI_inc]
                  first
                    | (rw [cl_nI (by omega), h6.2.2]
                       have h0 : dC c p = 2 := oC_0.mp c157
                       refine kk _ ⟨h6.1.up (by decide), fun q hq e he => by rw [upR_n (by decide)]; exact h6.2.1 q hq e he, fun q hq => ?_⟩
                       rw [upR_s]
                       by_cases e1 : q = p
                       · subst e1
                         rw [pk_us, if_pos (by omega), cntP_s, show ft0 P s q c = true by unfold ft0; rw [hft, decide_eq_true h0]; rfl]; rfl
                       · rw [pk_un e1, h9.2.2 q hq]
                         by_cases e2 : q < p
                         · rw [if_pos e2, if_pos (by omega)]
                         · rw [if_neg e2, if_neg (by omega)])
                    | (have h0 : ¬ dC c p = 2 := fun q => c157 (oC_0.mpr q)
                       refine kk _ ⟨h6.1, h6.2.1, fun q hq => ?_⟩
                       rw [h6.2.2, h9.2.2 q hq]
                       by_cases e1 : q = p
                       · subst e1
                         rw [if_neg (by omega), if_pos (by omega), cntP_s, show ft0 P s q c = false by unfold ft0; rw [decide_eq_false h0, Bool.and_false]]; rfl
                       · by_cases e2 : q < p
                         · rw [if_pos e2, if_pos (by omega)]
                         · rw [if_neg e2, if_neg (by omega)])
                    | fail "no way"
            · skip
              refine g_iload dX0_weigh_115 rfl ?_
              refine g_aload_n dX0_weigh_117 rfl ?_
              refine t_getR dX0_weigh_118 fl_X0_21 rfl (by decide) rfl (by decide) rfl ?_
              refine t_getI dX0_weigh_121 fl_X0_54 rfl (by decide) rfl (by decide) ?_
              rw [h9.1 22 (by decide), h4b.1 22 (by decide), hP.1]
              refine g_icmp_ge (tgt := 177) dX0_weigh_124 (by decide) (fun c124 => ?_) (fun c124 => ?_)
              · skip
                refine g_vret dX0_weigh_177 ?_
                refine ⟨I5, rfl, (h4b.1.mono (by decide)).trans (h9.1.mono (by decide)), ?_, ?_, ?_, ?_, ?_, ?_, fun q hq e he => ?_, fun q hq => ?_⟩
                · rw [h9.1 36 (by decide)]; exact h4b.2.1
                · rw [h9.1 36 (by decide)]; exact h4b.2.2.2.2.1
                · rw [h9.1 36 (by decide)]; exact h4b.2.2.2.1
                · rw [h9.1 36 (by decide)]; exact h4b.2.2.1
                · rw [h9.1 36 (by decide)]; exact h4b.2.2.2.2.2.1
                · rw [h9.1 36 (by decide)]; exact h4b.2.2.2.2.2.2
                · rw [h9.2.1 q hq e he, if_pos hq]
                · rw [h9.2.2 q hq, if_pos hq]
              · exact absurd (Int32.le_refl _) c124
            · exact ⟨Fr.rf, fun q hq e he => by rw [h4b.1 38 (by decide), if_neg (Nat.not_lt_zero q)]; exact hB.2.2.2.2.2.2.1 q hq e he, fun q hq => by rw [h4b.1 39 (by decide), if_neg (Nat.not_lt_zero q)]; exact hB.2.2.2.2.2.2.2 q hq⟩
          · skip
            refine g_aload_n dX0_weigh_102 rfl ?_
            refine g_iload_n dX0_weigh_103 rfl ?_
            refine t_putI dX0_weigh_104 fl_X0_39 rfl (by decide) rfl (by decide) ?_
            refine g_aload_n dX0_weigh_107 rfl ?_
            refine g_iload_n dX0_weigh_108 rfl ?_
            refine t_putI dX0_weigh_109 fl_X0_36 rfl (by decide) rfl (by decide) ?_
            refine g_abs (fun I4 => Fr [36] I I4 ∧ I4 36 5 = nI (hvF P s (c + 1)).2 ∧ I4 36 8 = oI (hvF P s (c + 1)).1 ∧ I4 36 7 = oI (fstN (ftB P s) (c + 1)) ∧ I4 36 6 = nI (cntP (ftB P s) (c + 1)) ∧ I4 36 9 = nI (smF (fW P s) (c + 1)) ∧ I4 36 10 = nI (smF (nobW P s) (c + 1))) (by
              rw [hvF_s, hw0]
              first
                | (have h0 : ¬ (hvF P s c).2 < wtC P.1 c := fun q => absurd (nI_lt q (by omega)) (Int32.not_lt.mpr c99)
                   rw [if_neg h0]
                   exact ⟨h2.1, h2.2.1.trans hB.1, h2.2.2.1.trans hB.2.2.2.1, h2.2.2.2⟩)
                | (have h0 : (hvF P s c).2 < wtC P.1 c := (nI_ltI (by omega) (by omega)).mp (Int32.not_le.mp c99)
                   rw [if_pos h0]
                   refine ⟨(h2.1.up (by decide)).up (by decide), ?_, ?_, ?_, ?_, ?_, ?_⟩
                   · rw [upR_s, pk_un (by decide), upR_s, pk_us]
                   · rw [upR_s, pk_us]; rfl
                   · rw [upR_s, pk_un (by decide), upR_s, pk_un (by decide)]; exact h2.2.2.2.1
                   · rw [upR_s, pk_un (by decide), upR_s, pk_un (by decide)]; exact h2.2.2.2.2.1
                   · rw [upR_s, pk_un (by decide), upR_s, pk_un (by decide)]; exact h2.2.2.2.2.2.1
                   · rw [upR_s, pk_un (by decide), upR_s, pk_un (by decide)]; exact h2.2.2.2.2.2.2)) (fun I4 h4b => ?_)
            refine g_iconst (v := 0) dX0_weigh_112 (by decide) ?_
            refine g_istore dX0_weigh_113 (by decide) ?_
            show Go _ _ _ _ _ _ [_, _, _, _, _] _ _ _
            refine go_mem (fun p I5 => Fr [38, 39] I4 I5 ∧ (∀ q, q < P.1 → ∀ e, e < 5 → I5 38 (5 * q + e) = nI (smF (wE P s q e) (if q < p then c + 1 else c))) ∧ ∀ q, q < P.1 → I5 39 q = nI (cntP (ft0 P s q) (if q < p then c + 1 else c))) P.1 (fun p I5 => Go X (d + 1) 66 M_X0_weigh 66 115 [.ref 36, .int (nI c), .int (nI (wtC P.1 c)), .int (nI (cntO c P.1)), .int (nI p)] [] (I5, J, rf0) (RV (fun m => ∃ I', m = (I', J, rf0) ∧ Fr [36, 38, 39] I I' ∧ BelI P s (c + 1) I'))) (fun p I5 hp h9 kk => ?_) (fun I5 h9 => ?_) _ ?_
            · skip
              refine g_iload dX0_weigh_115 rfl ?_
              refine g_aload_n dX0_weigh_117 rfl ?_
              refine t_getR dX0_weigh_118 fl_X0_21 rfl (by decide) rfl (by decide) rfl ?_
              refine t_getI dX0_weigh_121 fl_X0_54 rfl (by decide) rfl (by decide) ?_
              rw [h9.1 22 (by decide), h4b.1 22 (by decide), hP.1]
              refine g_icmp_ge (tgt := 177) dX0_weigh_124 (by decide) (fun c124 => ?_) (fun c124 => ?_)
              · exact absurd (nI_lt hp (by omega)) (Int32.not_lt.mpr c124)
              · skip
                refine g_aload_n dX0_weigh_127 rfl ?_
                refine t_getR dX0_weigh_128 fl_X0_15 rfl (by decide) rfl (by decide) rfl ?_
                refine g_iload dX0_weigh_131 rfl ?_
                refine g_iconst (v := 5) dX0_weigh_133 (by decide) ?_
                refine g_imul dX0_weigh_134 ?_
                refine g_aload_n dX0_weigh_135 rfl ?_
                refine t_getR dX0_weigh_136 fl_X0_9 rfl (by decide) rfl (by decide) rfl ?_
                refine g_iload dX0_weigh_139 rfl ?_
                refine t_iald dX0_weigh_141 rfl (by decide) (in_nI (by omega) (by decide)) ?_
                rw [cl_nI (by omega), h9.1 37 (by decide), h4b.1 37 (by decide), ho p (by omega)]
                refine g_iadd dX0_weigh_142 ?_
                refine g_iconst (v := 2) dX0_weigh_143 (by decide) ?_
                refine g_iadd dX0_weigh_144 ?_
                refine g_dup2 dX0_weigh_145 rfl rfl ?_
                refine t_iald dX0_weigh_146 rfl (by decide) (by rw [ixw]; exact in_nI (by have := dC_lt c p; omega) (by decide)) ?_
                rw [ixw, cl_nI (by have := dC_lt c p; omega)]
                refine g_iload_n dX0_weigh_147 rfl ?_
                refine g_iadd dX0_weigh_148 ?_
                refine t_iast dX0_weigh_149 rfl (by decide) (in_nI (by have := dC_lt c p; omega) (by decide)) ?_
                rw [show I5 38 (5 * p + dC c p) = nI (smF (wE P s p (dC c p)) c) by rw [h9.2.1 p (by omega) (dC c p) (dC_lt c p), if_neg (by omega)], nI_add, cl_nI (by have := dC_lt c p; omega)]
                refine g_abs (fun I6 => Fr [38, 39] I4 I6 ∧ (∀ q, q < P.1 → ∀ e, e < 5 → I6 38 (5 * q + e) = nI (smF (wE P s q e) (if q < p + 1 then c + 1 else c))) ∧ I6 39 = I5 39) ⟨h9.1.up (by decide), fun q hq e he => ?_, by rw [upR_n (by decide)]⟩ (fun I6 h6 => ?_)
                · have hd9 := dC_lt c p
                  rw [upR_s]
                  by_cases e1 : q = p
                  · subst e1
                    rw [if_pos (by omega)]
                    by_cases e2 : e = dC c q
                    · rw [e2, pk_us, smF_s, show wE P s q (dC c q) c = wtC P.1 c by unfold wE; rw [if_pos rfl, hw0]]
                    · rw [pk_un (by omega), h9.2.1 q hq e he, if_neg (by omega), smF_s, show wE P s q e c = 0 from if_neg (fun z => e2 z.symm)]; rfl
                  · rw [pk_un (by omega), h9.2.1 q hq e he]
                    by_cases e2 : q < p
                    · rw [if_pos e2, if_pos (by omega)]
                    · rw [if_neg e2, if_neg (by omega)]
                refine g_aload_n dX0_weigh_150 rfl ?_
                refine t_getR dX0_weigh_151 fl_X0_9 rfl (by decide) rfl (by decide) rfl ?_
                refine g_iload dX0_weigh_154 rfl ?_
                refine t_iald dX0_weigh_156 rfl (by decide) (in_nI (by omega) (by decide)) ?_
                rw [cl_nI (by omega), h6.1 37 (by decide), h4b.1 37 (by decide), ho p (by omega)]
                refine g_if_ne (tgt := 171) dX0_weigh_157 (by decide) (fun c157 => ?_) (fun c157 => ?_)
                · skip
                  refine g_iinc dX0_weigh_171 rfl (by decide) ?_
                  show Go _ _ _ _ _ _ [_, _, _, _, _] _ _ _
                  refine g_goto (tgt := 115) dX0_weigh_174 (by decide) ?_
                  rw [nI_inc]
                  first
                    | (rw [cl_nI (by omega), h6.2.2]
                       have h0 : dC c p = 2 := oC_0.mp c157
                       refine kk _ ⟨h6.1.up (by decide), fun q hq e he => by rw [upR_n (by decide)]; exact h6.2.1 q hq e he, fun q hq => ?_⟩
                       rw [upR_s]
                       by_cases e1 : q = p
                       · subst e1
                         rw [pk_us, if_pos (by omega), cntP_s, show ft0 P s q c = true by unfold ft0; rw [hft, decide_eq_true h0]; rfl]; rfl
                       · rw [pk_un e1, h9.2.2 q hq]
                         by_cases e2 : q < p
                         · rw [if_pos e2, if_pos (by omega)]
                         · rw [if_neg e2, if_neg (by omega)])
                    | (have h0 : ¬ dC c p = 2 := fun q => c157 (oC_0.mpr q)
                       refine kk _ ⟨h6.1, h6.2.1, fun q hq => ?_⟩
                       rw [h6.2.2, h9.2.2 q hq]
                       by_cases e1 : q = p
                       · subst e1
                         rw [if_neg (by omega), if_pos (by omega), cntP_s, show ft0 P s q c = false by unfold ft0; rw [decide_eq_false h0, Bool.and_false]]; rfl
                       · by_cases e2 : q < p
                         · rw [if_pos e2, if_pos (by omega)]
                         · rw [if_neg e2, if_neg (by omega)])
                    | fail "no way"
                · skip
                  refine g_aload_n dX0_weigh_160 rfl ?_
                  refine t_getR dX0_weigh_161 fl_X0_18 rfl (by decide) rfl (by decide) rfl ?_
                  refine g_iload dX0_weigh_164 rfl ?_
                  refine g_dup2 dX0_weigh_166 rfl rfl ?_
                  refine t_iald dX0_weigh_167 rfl (by decide) (in_nI (by omega) (by decide)) ?_
                  rw [cl_nI (by omega), h6.2.2, h9.2.2 p (by omega), if_neg (by omega)]
                  refine g_iconst (v := 1) dX0_weigh_168 (by decide) ?_
                  refine g_iadd dX0_weigh_169 ?_
                  rw [nI_1]
                  refine t_iast dX0_weigh_170 rfl (by decide) (in_nI (by omega) (by decide)) ?_
                  refine g_iinc dX0_weigh_171 rfl (by decide) ?_
                  show Go _ _ _ _ _ _ [_, _, _, _, _] _ _ _
                  refine g_goto (tgt := 115) dX0_weigh_174 (by decide) ?_
                  rw [nI_inc]
                  first
                    | (rw [cl_nI (by omega), h6.2.2]
                       have h0 : dC c p = 2 := oC_0.mp c157
                       refine kk _ ⟨h6.1.up (by decide), fun q hq e he => by rw [upR_n (by decide)]; exact h6.2.1 q hq e he, fun q hq => ?_⟩
                       rw [upR_s]
                       by_cases e1 : q = p
                       · subst e1
                         rw [pk_us, if_pos (by omega), cntP_s, show ft0 P s q c = true by unfold ft0; rw [hft, decide_eq_true h0]; rfl]; rfl
                       · rw [pk_un e1, h9.2.2 q hq]
                         by_cases e2 : q < p
                         · rw [if_pos e2, if_pos (by omega)]
                         · rw [if_neg e2, if_neg (by omega)])
                    | (have h0 : ¬ dC c p = 2 := fun q => c157 (oC_0.mpr q)
                       refine kk _ ⟨h6.1, h6.2.1, fun q hq => ?_⟩
                       rw [h6.2.2, h9.2.2 q hq]
                       by_cases e1 : q = p
                       · subst e1
                         rw [if_neg (by omega), if_pos (by omega), cntP_s, show ft0 P s q c = false by unfold ft0; rw [decide_eq_false h0, Bool.and_false]]; rfl
                       · by_cases e2 : q < p
                         · rw [if_pos e2, if_pos (by omega)]
                         · rw [if_neg e2, if_neg (by omega)])
                    | fail "no way"
            · skip
              refine g_iload dX0_weigh_115 rfl ?_
              refine g_aload_n dX0_weigh_117 rfl ?_
              refine t_getR dX0_weigh_118 fl_X0_21 rfl (by decide) rfl (by decide) rfl ?_
              refine t_getI dX0_weigh_121 fl_X0_54 rfl (by decide) rfl (by decide) ?_
              rw [h9.1 22 (by decide), h4b.1 22 (by decide), hP.1]
              refine g_icmp_ge (tgt := 177) dX0_weigh_124 (by decide) (fun c124 => ?_) (fun c124 => ?_)
              · skip
                refine g_vret dX0_weigh_177 ?_
                refine ⟨I5, rfl, (h4b.1.mono (by decide)).trans (h9.1.mono (by decide)), ?_, ?_, ?_, ?_, ?_, ?_, fun q hq e he => ?_, fun q hq => ?_⟩
                · rw [h9.1 36 (by decide)]; exact h4b.2.1
                · rw [h9.1 36 (by decide)]; exact h4b.2.2.2.2.1
                · rw [h9.1 36 (by decide)]; exact h4b.2.2.2.1
                · rw [h9.1 36 (by decide)]; exact h4b.2.2.1
                · rw [h9.1 36 (by decide)]; exact h4b.2.2.2.2.2.1
                · rw [h9.1 36 (by decide)]; exact h4b.2.2.2.2.2.2
                · rw [h9.2.1 q hq e he, if_pos hq]
                · rw [h9.2.2 q hq, if_pos hq]
              · exact absurd (Int32.le_refl _) c124
            · exact ⟨Fr.rf, fun q hq e he => by rw [h4b.1 38 (by decide), if_neg (Nat.not_lt_zero q)]; exact hB.2.2.2.2.2.2.1 q hq e he, fun q hq => by rw [h4b.1 39 (by decide), if_neg (Nat.not_lt_zero q)]; exact hB.2.2.2.2.2.2.2 q hq⟩
    · exact absurd (Int32.le_refl _) c16
theorem ct_weighAll {P : Pce} {s : Evs} (hP : PcC P I) (hO : PcOK P) (hE : EsC s I) (hR : EvR s) (hP2 : EvP P s) : Ct X (d + 4) 66 M_X0_weighAll 66 [.ref 36] (I, J, rf0) (RV (fun m => ∃ I', m = (I', J, rf0) ∧ Fr [36, 37, 38, 39] I I' ∧ BelI P s (5 ^ P.1) I')) := by
  have h4 := hO.1
  have h5 := p5 h4
  show Go _ _ _ _ _ _ [_, _, _] _ _ _
  refine g_aload_n dX0_weighAll_0 rfl ?_
  refine g_iconst (v := 0) dX0_weighAll_1 (by decide) ?_
  refine t_putI dX0_weighAll_2 fl_X0_29 rfl (by decide) rfl (by decide) ?_
  refine g_aload_n dX0_weighAll_5 rfl ?_
  refine g_bipush (v := -9) dX0_weighAll_6 (by decide) ?_
  refine t_putI dX0_weighAll_8 fl_X0_33 rfl (by decide) rfl (by decide) ?_
  refine g_aload_n dX0_weighAll_11 rfl ?_
  refine g_bipush (v := -9) dX0_weighAll_12 (by decide) ?_
  refine t_putI dX0_weighAll_14 fl_X0_36 rfl (by decide) rfl (by decide) ?_
  refine g_aload_n dX0_weighAll_17 rfl ?_
  refine g_iconst (v := 0) dX0_weighAll_18 (by decide) ?_
  refine t_putI dX0_weighAll_19 fl_X0_39 rfl (by decide) rfl (by decide) ?_
  refine g_aload_n dX0_weighAll_22 rfl ?_
  refine g_iconst (v := 0) dX0_weighAll_23 (by decide) ?_
  refine t_putI dX0_weighAll_24 fl_X0_42 rfl (by decide) rfl (by decide) ?_
  refine g_aload_n dX0_weighAll_27 rfl ?_
  refine g_iconst (v := 0) dX0_weighAll_28 (by decide) ?_
  refine t_putI dX0_weighAll_29 fl_X0_45 rfl (by decide) rfl (by decide) ?_
  refine g_aload_n dX0_weighAll_32 rfl ?_
  refine t_getR dX0_weighAll_33 fl_X0_15 rfl (by decide) rfl (by decide) rfl ?_
  refine g_iconst (v := 0) dX0_weighAll_36 (by decide) ?_
  refine g_callSv dX0_weighAll_37 ln_X0_48 rfl rfl (Nat.le_of_ble_eq_true rfl) (Nat.le_of_ble_eq_true rfl) (ct_fill0 (N := 66) (a := 38) (n := 20) rfl (by decide) (by decide)) rfl (fun m37 h37 => ?_)
  obtain ⟨g1, rfl, hg1, -⟩ := h37
  refine g_aload_n dX0_weighAll_40 rfl ?_
  refine t_getR dX0_weighAll_41 fl_X0_18 rfl (by decide) rfl (by decide) rfl ?_
  refine g_iconst (v := 0) dX0_weighAll_44 (by decide) ?_
  refine g_callSv dX0_weighAll_45 ln_X0_48 rfl rfl (Nat.le_of_ble_eq_true rfl) (Nat.le_of_ble_eq_true rfl) (ct_fill0 (N := 66) (a := 39) (n := 4) rfl (by decide) (by decide)) rfl (fun m45 h45 => ?_)
  obtain ⟨g2, rfl, hg2, -⟩ := h45
  refine g_abs (fun I1 => Fr [36, 37, 38, 39] I I1 ∧ BelI P s 0 I1) ⟨(((((((Fr.rf.up (by decide)).up (by decide)).up (by decide)).up (by decide)).up (by decide)).up (by decide)).up (by decide)).up (by decide), rfl, rfl, rfl, rfl, rfl, rfl, fun p hp e he => by rw [upR_n (by decide), upR_s]; exact hg1 _ (by omega), fun p hp => by rw [upR_s]; exact hg2 _ (by omega)⟩ (fun I1 h1 => ?_)
  refine g_aload_n dX0_weighAll_48 rfl ?_
  refine t_getR dX0_weighAll_49 fl_X0_21 rfl (by decide) rfl (by decide) rfl ?_
  refine t_getI dX0_weighAll_52 fl_X0_54 rfl (by decide) rfl (by decide) ?_
  rw [h1.1 22 (by decide), hP.1]
  refine g_callSNi dX0_weighAll_55 ln_X0_59 ⟨_, rfl⟩ rfl (Nat.le_of_ble_eq_true rfl) (Nat.le_of_ble_eq_true rfl) (ct_allOuts h4) rfl (fun r55 m55 h55 => ?_)
  obtain ⟨rfl, rfl⟩ := h55
  refine g_istore_n dX0_weighAll_58 (by decide) ?_
  show Go _ _ _ _ _ _ [_, _, _] _ _ _
  refine g_iconst (v := 0) dX0_weighAll_59 (by decide) ?_
  refine g_istore_n dX0_weighAll_60 (by decide) ?_
  show Go _ _ _ _ _ _ [_, _, _] _ _ _
  refine go_mem (fun c I4 => Fr [36, 37, 38, 39] I I4 ∧ BelI P s c I4) (5 ^ P.1) (fun c I4 => Go X (d + 4) 66 M_X0_weighAll 66 61 [.ref 36, .int (nI (5 ^ P.1)), .int (nI c)] [] (I4, J, rf0) (RV (fun m => ∃ I', m = (I', J, rf0) ∧ Fr [36, 37, 38, 39] I I' ∧ BelI P s (5 ^ P.1) I'))) (fun c I4 hc h9 kk => ?_) (fun I4 h9 => ?_) _ h1
  · skip
    refine g_iload_n dX0_weighAll_61 rfl ?_
    refine g_iload_n dX0_weighAll_62 rfl ?_
    refine g_icmp_ge (tgt := 106) dX0_weighAll_63 (by decide) (fun c63 => ?_) (fun c63 => ?_)
    · exact absurd (nI_lt hc (by omega)) (Int32.not_lt.mpr c63)
    · skip
      refine g_iload_n dX0_weighAll_66 rfl ?_
      refine g_aload_n dX0_weighAll_67 rfl ?_
      refine t_getR dX0_weighAll_68 fl_X0_9 rfl (by decide) rfl (by decide) rfl ?_
      refine g_callSNv dX0_weighAll_71 ln_X0_63 rfl rfl (Nat.le_of_ble_eq_true rfl) (Nat.le_of_ble_eq_true rfl) (ct_spell (c := c) (k := 37) rfl (by decide) (by omega)) rfl (fun m71 h71 => ?_)
      obtain ⟨g, rfl, hg⟩ := h71
      have hf5 : Fr [36, 37, 38, 39] I (upR I4 37 g) := h9.1.up (by decide)
      have hP5 : PcC P (upR I4 37 g) := hP.keep (by rw [hf5 22 (by decide)]) (by rw [hf5 22 (by decide)]) (hf5 23 (by decide)) (hf5 24 (by decide))
      have hE5 : EsC s (upR I4 37 g) := ⟨by rw [hf5 25 (by decide)]; exact hE.1, by rw [hf5 25 (by decide)]; exact hE.2.1, hE.2.2.1.keep (hf5 28 (by decide)), fun x a b => by rw [hf5 26 (by decide)]; exact hE.2.2.2 x a b⟩
      have hB5 : BelI P s c (upR I4 37 g) := ⟨h9.2.1, h9.2.2.1, h9.2.2.2.1, h9.2.2.2.2.1, h9.2.2.2.2.2.1, h9.2.2.2.2.2.2.1, h9.2.2.2.2.2.2.2.1, h9.2.2.2.2.2.2.2.2⟩
      refine g_aload_n dX0_weighAll_74 rfl ?_
      refine g_aload_n dX0_weighAll_75 rfl ?_
      refine t_getR dX0_weighAll_76 fl_X0_25 rfl (by decide) rfl (by decide) rfl ?_
      refine t_getI dX0_weighAll_79 fl_X0_67 rfl (by decide) rfl (by decide) ?_
      rw [hE5.2.1]
      refine g_aload_n dX0_weighAll_82 rfl ?_
      refine t_getR dX0_weighAll_83 fl_X0_25 rfl (by decide) rfl (by decide) rfl ?_
      refine t_getI dX0_weighAll_86 fl_X0_72 rfl (by decide) rfl (by decide) ?_
      rw [hE5.1]
      refine g_callVi dX0_weighAll_89 ln_X0_75 ⟨_, rfl⟩ rfl (by decide) ⟨_, _, rfl⟩ rfl (Nat.le_of_ble_eq_true rfl) (Nat.le_of_ble_eq_true rfl) (ct_agrees (o := oC c) (a := s.2.1) (b := s.1) hP5 hO hE5 hR hP2 (oC_R c) (fun p hp => by rw [upR_s]; exact hg p hp) (Nat.le_refl _) (Nat.le_refl _) hR.2.1) rfl (fun r89 m89 h89 => ?_)
      obtain ⟨rfl, rfl⟩ := h89
      refine g_if_eq (tgt := 100) dX0_weighAll_92 (by decide) (fun c92 => ?_) (fun c92 => ?_)
      · skip
        refine g_iinc dX0_weighAll_100 rfl (by decide) ?_
        show Go _ _ _ _ _ _ [_, _, _] _ _ _
        refine g_goto (tgt := 61) dX0_weighAll_103 (by decide) ?_
        rw [nI_inc]
        first
          | exact kk _ ⟨hf5.trans (hf6.mono (by decide)), hB6⟩
          | exact kk _ ⟨hf5, hB5.no (bI_eq c92) rfl rfl rfl⟩
          | fail "no way"
      · skip
        refine g_aload_n dX0_weighAll_95 rfl ?_
        refine g_iload_n dX0_weighAll_96 rfl ?_
        refine g_callVv dX0_weighAll_97 ln_X0_79 rfl rfl (by decide) ⟨_, _, rfl⟩ rfl (Nat.le_of_ble_eq_true rfl) (Nat.le_of_ble_eq_true rfl) (ct_weigh (s := s) hP5 hO (by omega) hB5 (fun p hp => by rw [upR_s]; exact hg p hp) (bI_ne c92)) rfl (fun m97 h97 => ?_)
        obtain ⟨I6, rfl, hf6, hB6⟩ := h97
        refine g_iinc dX0_weighAll_100 rfl (by decide) ?_
        show Go _ _ _ _ _ _ [_, _, _] _ _ _
        refine g_goto (tgt := 61) dX0_weighAll_103 (by decide) ?_
        rw [nI_inc]
        first
          | exact kk _ ⟨hf5.trans (hf6.mono (by decide)), hB6⟩
          | exact kk _ ⟨hf5, hB5.no (bI_eq c92) rfl rfl rfl⟩
          | fail "no way"
  · skip
    refine g_iload_n dX0_weighAll_61 rfl ?_
    refine g_iload_n dX0_weighAll_62 rfl ?_
    refine g_icmp_ge (tgt := 106) dX0_weighAll_63 (by decide) (fun c63 => ?_) (fun c63 => ?_)
    · skip
      refine g_vret dX0_weighAll_106 ?_
      exact ⟨I4, rfl, h9.1, h9.2⟩
    · exact absurd (Int32.le_refl _) c63
end
