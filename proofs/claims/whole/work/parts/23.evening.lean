section
variable {X : Nat × (Nat → Int32)} {d : Nat} {I : Nat → Nat → Int32} {J : Nat → Nat → Int64}
/-! ===== the evening (class) ===== -/
def EvR (s : Evs) : Prop := s.1 ≤ 14 ∧ s.2.1 ≤ s.1 ∧ OuR s.2.2.1 ∧ ∀ x, s.2.2.2 x < 64
theorem hrS_lt {P : Pce} (hO : PcOK P) (o : Nat → Int) (x : Nat) : hrS P o x < 64 := hrK_lt hO _ o x
theorem evOK_k {P : Pce} {s : Evs} {d : Deed} (h : evOK P s d) : d.1 = 0 ∨ d.1 = 1 ∨ d.1 = 2 ∨ d.1 = 3 := by
  obtain ⟨k, p, w⟩ := d
  match k, h with
  | 0, _ => exact Or.inl rfl
  | 1, _ => exact Or.inr (Or.inl rfl)
  | 2, _ => exact Or.inr (Or.inr (Or.inl rfl))
  | 3, _ => exact Or.inr (Or.inr (Or.inr rfl))
  | k + 4, h => exact absurd h (fun q => q)
theorem evOK_b {P : Pce} {s : Evs} {d : Deed} (hO : PcOK P) (h : evOK P s d) : d.1 ≤ 3 ∧ d.2.1 < 4 ∧ d.2.2 < 16 := by
  have h4 := hO.1
  have h14 := hO.2.1
  obtain ⟨k, p, w⟩ := d
  have hk := evOK_k h
  rcases hk with rfl | rfl | rfl | rfl
  · obtain ⟨a, b, c⟩ := h
    dsimp only at b c ⊢
    omega
  · obtain ⟨a, b, -, -⟩ := h
    dsimp only at a b ⊢
    omega
  · obtain ⟨a, b⟩ := h
    dsimp only at a b ⊢
    omega
  · obtain ⟨a, b⟩ := h
    dsimp only at a b ⊢
    omega
theorem EvR.step {P : Pce} {s : Evs} {d : Deed} (hO : PcOK P) (hR : EvR s) (h : evOK P s d) : EvR (evStep P s d) := by
  have h14 := hO.2.1
  have h4 := hO.1
  obtain ⟨k, p, w⟩ := d
  have hk := evOK_k h
  obtain ⟨r1, r2, r3, r4⟩ := hR
  rcases hk with rfl | rfl | rfl | rfl
  · have h1 : s.1 < P.2.1 := h.1
    refine ⟨?_, ?_, r3, fun x => ?_⟩
    · show s.1 + 1 ≤ 14
      omega
    · show s.2.1 ≤ s.1 + 1
      omega
    · show upR s.2.2.2 s.1 (hrS P s.2.2.1 s.1) x < 64
      by_cases e : x = s.1
      · subst e; rw [upR_s]; exact hrS_lt hO _ _
      · rw [upR_n e]; exact r4 x
  · refine ⟨r1, r2, fun q hq => ?_, r4⟩
    show -2 ≤ upR s.2.2.1 p (s.2.2.1 p + w - 1) q ∧ upR s.2.2.1 p (s.2.2.1 p + w - 1) q ≤ 2
    by_cases e : q = p
    · subst e; rw [upR_s]; exact ⟨h.2.2.1, h.2.2.2⟩
    · rw [upR_n e]; exact r3 q hq
  · refine ⟨r1, r2, fun q hq => ?_, r4⟩
    show -2 ≤ upR s.2.2.1 p (s.2.2.1 w) q ∧ upR s.2.2.1 p (s.2.2.1 w) q ≤ 2
    have hw : w < P.1 := h.2
    by_cases e : q = p
    · subst e; rw [upR_s]; exact r3 w (by omega)
    · rw [upR_n e]; exact r3 q hq
  · have hw : w < P.2.1 := h.2
    exact ⟨show w ≤ 14 by omega, Nat.le_refl _, OuR0, r4⟩
theorem EvR.e : EvR evE := ⟨by decide, by decide, OuR0, fun _ => show (0 : Nat) < 64 by decide⟩
theorem EvR.run {P : Pce} (hO : PcOK P) : ∀ {ds : List Deed} {s : Evs}, EvR s → evAll P s ds → EvR (evRun P s ds)
  | [], _, h, _ => h
  | e :: ds, s, h, ha => EvR.run hO (ds := ds) (s := evStep P s e) (h.step hO ha.1) ha.2
theorem evRun_app (P : Pce) (s : Evs) (a b : List Deed) : evRun P s (a ++ b) = evRun P (evRun P s a) b := List.foldl_append
theorem evAll_app {P : Pce} : ∀ {a b : List Deed} {s : Evs}, evAll P s (a ++ b) ↔ evAll P s a ∧ evAll P (evRun P s a) b
  | [], _, _ => ⟨fun h => ⟨trivial, h⟩, fun h => h.2⟩
  | d :: a, b, s => by
    show (evOK P s d ∧ evAll P (evStep P s d) (a ++ b)) ↔ (evOK P s d ∧ evAll P (evStep P s d) a) ∧ evAll P (evRun P (evStep P s d) a) b
    rw [evAll_app]
    exact ⟨fun h => ⟨⟨h.1, h.2.1⟩, h.2.2⟩, fun h => ⟨h.1.1, h.1.2, h.2⟩⟩
theorem evAll_take {P : Pce} {s : Evs} {ds : List Deed} (n : Nat) (h : evAll P s ds) : evAll P s (ds.take n) := by
  rw [← List.take_append_drop n ds, evAll_app] at h
  exact h.1
theorem evAll_at {P : Pce} {s : Evs} {ds : List Deed} {i : Nat} {d : Deed} (h : evAll P s ds) (hd : ds[i]? = some d) : evOK P (evRun P s (ds.take i)) d := by
  have hl : i < ds.length := (List.getElem?_eq_some_iff.mp hd).1
  rw [← List.take_append_drop i ds, evAll_app] at h
  have e : ds.drop i = d :: ds.drop (i + 1) := by
    rw [List.drop_eq_getElem_cons hl]
    congr 1
    exact Option.some.inj ((List.getElem?_eq_getElem hl).symm.trans hd)
  rw [e] at h
  exact h.2.1
theorem run_take {P : Pce} {s : Evs} {ds : List Deed} {i : Nat} {d : Deed} (hd : ds[i]? = some d) : evRun P s (ds.take (i + 1)) = evStep P (evRun P s (ds.take i)) d := by
  rw [List.take_add_one, hd, evRun_app]
  rfl
theorem ct_isOver {P : Pce} {s : Evs} (hP : PcC P I) (hO : PcOK P) (hE : EsC s I) (hR : EvR s) : Ct X d 66 M_X1_isOver 66 [.ref 25] (I, J, rf0) (RI (fun y9 m => y9 = bI (decide (P.2.1 ≤ s.1)) ∧ m = (I, J, rf0))) := by
  have h14 := hO.2.1
  have hr := hR.1
  show Go _ _ _ _ _ _ [_] _ _ _
  refine g_aload_n dX1_isOver_0 rfl ?_
  refine t_getI dX1_isOver_1 fl_X1_25 rfl (by decide) rfl (by decide) ?_
  refine g_aload_n dX1_isOver_4 rfl ?_
  refine t_getR dX1_isOver_5 fl_X1_21 rfl (by decide) rfl (by decide) rfl ?_
  refine t_getI dX1_isOver_8 fl_X1_29 rfl (by decide) rfl (by decide) ?_
  rw [hE.1, hP.2.1]
  refine g_icmp_lt (tgt := 18) dX1_isOver_11 (by decide) (fun c11 => ?_) (fun c11 => ?_)
  · skip
    refine g_iconst (v := 0) dX1_isOver_18 (by decide) ?_
    refine g_iret dX1_isOver_19 (fun ty h => by cases h; rfl) ?_
    refine ⟨?_, rfl⟩
    first
      | (rw [decide_eq_false (fun q => absurd ((nI_ltI (by omega) (by omega)).mp c11) (by omega))]; rfl)
      | (rw [decide_eq_true (by have := (not_congr (nI_ltI (a := s.1) (b := P.2.1) (by omega) (by omega))).mp c11; omega)]; rfl)
      | fail "no way"
  · skip
    refine g_iconst (v := 1) dX1_isOver_14 (by decide) ?_
    refine g_goto (tgt := 19) dX1_isOver_15 (by decide) ?_
    refine g_iret dX1_isOver_19 (fun ty h => by cases h; rfl) ?_
    refine ⟨?_, rfl⟩
    first
      | (rw [decide_eq_false (fun q => absurd ((nI_ltI (by omega) (by omega)).mp c11) (by omega))]; rfl)
      | (rw [decide_eq_true (by have := (not_congr (nI_ltI (a := s.1) (b := P.2.1) (by omega) (by omega))).mp c11; omega)]; rfl)
      | fail "no way"
theorem ct_isFullC {n : Nat} (hn : I 25 4 = nI n) (hn2 : n ≤ 100) : Ct X d 66 M_X1_isFull 66 [.ref 25] (I, J, rf0) (RI (fun y9 m => y9 = bI (decide (40 ≤ n)) ∧ m = (I, J, rf0))) := by
  show Go _ _ _ _ _ _ [_] _ _ _
  refine g_aload_n dX1_isFull_0 rfl ?_
  refine t_getI dX1_isFull_1 fl_X1_34 rfl (by decide) rfl (by decide) ?_
  refine g_bipush (v := 40) dX1_isFull_4 (by decide) ?_
  rw [hn]
  refine g_icmp_lt (tgt := 13) dX1_isFull_6 (by decide) (fun c6 => ?_) (fun c6 => ?_)
  · skip
    refine g_iconst (v := 0) dX1_isFull_13 (by decide) ?_
    refine g_iret dX1_isFull_14 (fun ty h => by cases h; rfl) ?_
    refine ⟨?_, rfl⟩
    first
      | (rw [decide_eq_false (fun q => absurd ((nI_ltI (by omega) (by decide)).mp (show nI n < nI 40 from c6)) (by omega))]; rfl)
      | (rw [decide_eq_true (by have := (not_congr (nI_ltI (a := n) (b := 40) (by omega) (by decide))).mp c6; omega)]; rfl)
      | fail "no way"
  · skip
    refine g_iconst (v := 1) dX1_isFull_9 (by decide) ?_
    refine g_goto (tgt := 14) dX1_isFull_10 (by decide) ?_
    refine g_iret dX1_isFull_14 (fun ty h => by cases h; rfl) ?_
    refine ⟨?_, rfl⟩
    first
      | (rw [decide_eq_false (fun q => absurd ((nI_ltI (by omega) (by decide)).mp (show nI n < nI 40 from c6)) (by omega))]; rfl)
      | (rw [decide_eq_true (by have := (not_congr (nI_ltI (a := n) (b := 40) (by omega) (by decide))).mp c6; omega)]; rfl)
      | fail "no way"
theorem ct_outOf {p : Nat} {o : Nat → Int} (ho : OuV 28 o I) (hp : p < 4) : Ct X d 66 M_X1_outOf 66 [.ref 25, .int (nI p)] (I, J, rf0) (RI (fun y9 m => y9 = zI (o p) ∧ m = (I, J, rf0))) := by
  show Go _ _ _ _ _ _ [_, _] _ _ _
  refine g_iload_n dX1_outOf_0 rfl ?_
  refine g_if_lt (tgt := 22) dX1_outOf_1 (by decide) (fun c1 => ?_) (fun c1 => ?_)
  · exact absurd c1 (nI_neg (by omega))
  · skip
    refine g_iload_n dX1_outOf_4 rfl ?_
    refine g_aload_n dX1_outOf_5 rfl ?_
    refine t_getR dX1_outOf_6 fl_X1_18 rfl (by decide) rfl (by decide) rfl ?_
    refine t_alen dX1_outOf_9 rfl (by decide) ?_
    refine g_icmp_ge (tgt := 22) dX1_outOf_10 (by decide) (fun c10 => ?_) (fun c10 => ?_)
    · exact absurd (nI_lt hp (by decide)) (Int32.not_lt.mpr c10)
    · skip
      refine g_aload_n dX1_outOf_13 rfl ?_
      refine t_getR dX1_outOf_14 fl_X1_18 rfl (by decide) rfl (by decide) rfl ?_
      refine g_iload_n dX1_outOf_17 rfl ?_
      refine t_iald dX1_outOf_18 rfl (by decide) (in_nI hp (by decide)) ?_
      refine g_goto (tgt := 23) dX1_outOf_19 (by decide) ?_
      refine g_iret dX1_outOf_23 (fun ty h => by cases h; rfl) ?_
      exact ⟨by rw [cl_nI (by omega)]; exact ho p hp, rfl⟩
theorem ct_heardOf {x : Nat} {s : Evs} (hE : EsC s I) (hR : EvR s) (h1 : s.2.1 ≤ x) (h2 : x < s.1) : Ct X d 66 M_X1_heardOf 66 [.ref 25, .int (nI x)] (I, J, rf0) (RI (fun y9 m => y9 = nI (s.2.2.2 x) ∧ m = (I, J, rf0))) := by
  have hr := hR.1
  show Go _ _ _ _ _ _ [_, _] _ _ _
  refine g_iload_n dX1_heardOf_0 rfl ?_
  refine g_aload_n dX1_heardOf_1 rfl ?_
  refine t_getI dX1_heardOf_2 fl_X1_37 rfl (by decide) rfl (by decide) ?_
  rw [hE.2.1]
  refine g_icmp_lt (tgt := 34) dX1_heardOf_5 (by decide) (fun c5 => ?_) (fun c5 => ?_)
  · exact absurd ((nI_ltI (by omega) (by omega)).mp c5) (by omega)
  · skip
    refine g_iload_n dX1_heardOf_8 rfl ?_
    refine g_aload_n dX1_heardOf_9 rfl ?_
    refine t_getI dX1_heardOf_10 fl_X1_25 rfl (by decide) rfl (by decide) ?_
    rw [hE.1]
    refine g_icmp_ge (tgt := 34) dX1_heardOf_13 (by decide) (fun c13 => ?_) (fun c13 => ?_)
    · exact absurd (nI_lt h2 (by omega)) (Int32.not_lt.mpr c13)
    · skip
      refine g_iload_n dX1_heardOf_16 rfl ?_
      refine g_aload_n dX1_heardOf_17 rfl ?_
      refine t_getR dX1_heardOf_18 fl_X1_9 rfl (by decide) rfl (by decide) rfl ?_
      refine t_alen dX1_heardOf_21 rfl (by decide) ?_
      refine g_icmp_ge (tgt := 34) dX1_heardOf_22 (by decide) (fun c22 => ?_) (fun c22 => ?_)
      · exact absurd (nI_lt (show x < 14 by omega) (by decide)) (Int32.not_lt.mpr c22)
      · skip
        refine g_aload_n dX1_heardOf_25 rfl ?_
        refine t_getR dX1_heardOf_26 fl_X1_9 rfl (by decide) rfl (by decide) rfl ?_
        refine g_iload_n dX1_heardOf_29 rfl ?_
        refine t_iald dX1_heardOf_30 rfl (by decide) (in_nI (by omega) (by decide)) ?_
        refine g_goto (tgt := 35) dX1_heardOf_31 (by decide) ?_
        refine g_iret dX1_heardOf_35 (fun ty h => by cases h; rfl) ?_
        exact ⟨by rw [cl_nI (by omega)]; exact hE.2.2.2 x h1 h2, rfl⟩
theorem ct_canSlip {p : Nat} {o : Nat → Int} {z : Int} (ho : OuV 28 o I) (hR : OuR o) (hp : p < 4) (hz : -1 ≤ z ∧ z ≤ 1) : Ct X (d + 1) 66 M_X1_canSlip 66 [.ref 25, .int (nI p), .int (zI z)] (I, J, rf0) (RI (fun y9 m => y9 = bI (decide (-2 ≤ o p + z ∧ o p + z ≤ 2)) ∧ m = (I, J, rf0))) := by
  have hr := hR p hp
  show Go _ _ _ _ _ _ [_, _, _] _ _ _
  refine g_aload_n dX1_canSlip_0 rfl ?_
  refine g_iload_n dX1_canSlip_1 rfl ?_
  refine g_callVi dX1_canSlip_2 ln_X1_40 ⟨_, rfl⟩ rfl (by decide) ⟨_, _, rfl⟩ rfl (Nat.le_of_ble_eq_true rfl) (Nat.le_of_ble_eq_true rfl) (ct_outOf ho hp) rfl (fun r2 m2 h2 => ?_)
  obtain ⟨rfl, rfl⟩ := h2
  refine g_iload_n dX1_canSlip_5 rfl ?_
  refine g_iadd dX1_canSlip_6 ?_
  refine g_mabs dX1_canSlip_7 mm_X1_44 (Nat.le_of_ble_eq_true rfl) ?_
  refine g_iconst (v := 2) dX1_canSlip_10 (by decide) ?_
  rw [z_add, show (if 0 ≤ zI (o p + z) then zI (o p + z) else 0 - zI (o p + z)) = zI (if 0 ≤ o p + z then o p + z else 0 - (o p + z)) by
    rw [z_0]
    by_cases q : 0 ≤ o p + z
    · rw [if_pos q, if_pos ((z_le (by omega) (by omega)).mpr q)]
    · rw [if_neg q, if_neg (fun h => q ((z_le (by omega) (by omega)).mp h)), z_sub]]
  generalize hw : (if 0 ≤ o p + z then o p + z else 0 - (o p + z)) = w
  have hw2 : (0 ≤ o p + z ∧ w = o p + z) ∨ (o p + z < 0 ∧ w = -(o p + z)) := by
    by_cases q : 0 ≤ o p + z
    · rw [if_pos q] at hw; omega
    · rw [if_neg q] at hw; omega
  refine g_icmp_gt (tgt := 18) dX1_canSlip_11 (by decide) (fun c11 => ?_) (fun c11 => ?_)
  · skip
    refine g_iconst (v := 0) dX1_canSlip_18 (by decide) ?_
    refine g_iret dX1_canSlip_19 (fun ty h => by cases h; rfl) ?_
    refine ⟨?_, rfl⟩
    first
      | (have e1 := (z_lt (a := 2) (b := w) (by omega) (by omega)).mp c11
         rw [decide_eq_false (by omega)]; rfl)
      | (have e1 := (not_congr (z_lt (a := 2) (b := w) (by omega) (by omega))).mp c11
         rw [decide_eq_true (by omega)]; rfl)
      | fail "no way"
  · skip
    refine g_iconst (v := 1) dX1_canSlip_14 (by decide) ?_
    refine g_goto (tgt := 19) dX1_canSlip_15 (by decide) ?_
    refine g_iret dX1_canSlip_19 (fun ty h => by cases h; rfl) ?_
    refine ⟨?_, rfl⟩
    first
      | (have e1 := (z_lt (a := 2) (b := w) (by omega) (by omega)).mp c11
         rw [decide_eq_false (by omega)]; rfl)
      | (have e1 := (not_congr (z_lt (a := 2) (b := w) (by omega) (by omega))).mp c11
         rw [decide_eq_true (by omega)]; rfl)
      | fail "no way"
/-- what a step of the evening leaves alone -/
def FrE (I I' : Nat → Nat → Int32) : Prop := Fr [25, 26, 28] I I' ∧ I' 25 4 = I 25 4
theorem FrE.pc {P : Pce} {I' : Nat → Nat → Int32} (h : FrE I I') (hP : PcC P I) : PcC P I' := hP.keep (by rw [h.1 22 (by decide)]) (by rw [h.1 22 (by decide)]) (h.1 23 (by decide)) (h.1 24 (by decide))
theorem FrE.tr {I' I'' : Nat → Nat → Int32} (h : FrE I I') (h2 : FrE I' I'') : FrE I I'' := ⟨h.1.trans h2.1, h2.2.trans h.2⟩
theorem ct_goOn {s : Evs} {h : Nat} (hE : EsC s I) (hR : EvR s) (h14 : s.1 < 14) : Ct X d 66 M_X1_goOnHearing 66 [.ref 25, .int (nI h)] (I, J, rf0) (RV (fun m => ∃ I', m = (I', J, rf0) ∧ FrE I I' ∧ EsC (s.1 + 1, s.2.1, s.2.2.1, upR s.2.2.2 s.1 h) I')) := by
  show Go _ _ _ _ _ _ [_, _] _ _ _
  refine g_aload_n dX1_goOnHearing_0 rfl ?_
  refine t_getI dX1_goOnHearing_1 fl_X1_25 rfl (by decide) rfl (by decide) ?_
  rw [hE.1]
  refine g_if_lt (tgt := 19) dX1_goOnHearing_4 (by decide) (fun c4 => ?_) (fun c4 => ?_)
  · exact absurd c4 (nI_neg (by omega))
  · skip
    refine g_aload_n dX1_goOnHearing_7 rfl ?_
    refine t_getI dX1_goOnHearing_8 fl_X1_25 rfl (by decide) rfl (by decide) ?_
    refine g_aload_n dX1_goOnHearing_11 rfl ?_
    refine t_getR dX1_goOnHearing_12 fl_X1_9 rfl (by decide) rfl (by decide) rfl ?_
    refine t_alen dX1_goOnHearing_15 rfl (by decide) ?_
    rw [hE.1]
    refine g_icmp_lt (tgt := 20) dX1_goOnHearing_16 (by decide) (fun c16 => ?_) (fun c16 => ?_)
    · skip
      refine g_aload_n dX1_goOnHearing_20 rfl ?_
      refine t_getR dX1_goOnHearing_21 fl_X1_9 rfl (by decide) rfl (by decide) rfl ?_
      refine g_aload_n dX1_goOnHearing_24 rfl ?_
      refine t_getI dX1_goOnHearing_25 fl_X1_25 rfl (by decide) rfl (by decide) ?_
      refine g_iload_n dX1_goOnHearing_28 rfl ?_
      rw [hE.1]
      refine t_iast dX1_goOnHearing_29 rfl (by decide) (in_nI h14 (by decide)) ?_
      refine g_aload_n dX1_goOnHearing_30 rfl ?_
      refine g_dup dX1_goOnHearing_31 rfl ?_
      refine t_getI dX1_goOnHearing_32 fl_X1_25 rfl (by decide) rfl (by decide) ?_
      refine g_iconst (v := 1) dX1_goOnHearing_35 (by decide) ?_
      refine g_iadd dX1_goOnHearing_36 ?_
      refine t_putI dX1_goOnHearing_37 fl_X1_25 rfl (by decide) rfl (by decide) ?_
      refine g_vret dX1_goOnHearing_40 ?_
      rw [cl_nI (by omega), upR_n (a := 25) (by decide), hE.1]
      refine ⟨_, rfl, ⟨(Fr.rf.up (by decide)).up (by decide), by rw [upR_s, pk_un (by decide)]⟩, ?_, ?_, fun p hp => ?_, fun x h1 h2 => ?_⟩
      · show (upR (β := Nat → Int32) _ 25 _) 25 5 = nI (s.1 + 1)
        rw [upR_s, pk_us, nI_1]
      · show (upR (β := Nat → Int32) _ 25 _) 25 6 = nI s.2.1
        rw [upR_s, pk_un (by decide)]; exact hE.2.1
      · show (upR (β := Nat → Int32) _ 25 _) 28 p = zI (s.2.2.1 p)
        rw [upR_n (by decide), upR_n (by decide)]; exact hE.2.2.1 p hp
      · show (upR (β := Nat → Int32) _ 25 _) 26 x = nI (upR s.2.2.2 s.1 h x)
        have h2' : x < s.1 + 1 := h2
        have h1' : s.2.1 ≤ x := h1
        rw [upR_n (by decide), upR_s]
        by_cases e : x = s.1
        · subst e; rw [pk_us, upR_s]
        · rw [pk_un e, upR_n e]; exact hE.2.2.2 x h1' (by omega)
    · exact absurd (nI_lt h14 (by decide)) c16
theorem ct_setOut {s : Evs} {p : Nat} {z : Int} (hE : EsC s I) (hp : p < 4) : Ct X d 66 M_X1_setOut 66 [.ref 25, .int (nI p), .int (zI z)] (I, J, rf0) (RV (fun m => ∃ I', m = (I', J, rf0) ∧ FrE I I' ∧ EsC (s.1, s.2.1, upR s.2.2.1 p z, s.2.2.2) I')) := by
  show Go _ _ _ _ _ _ [_, _, _] _ _ _
  refine g_iload_n dX1_setOut_0 rfl ?_
  refine g_if_lt (tgt := 20) dX1_setOut_1 (by decide) (fun c1 => ?_) (fun c1 => ?_)
  · exact absurd c1 (nI_neg (by omega))
  · skip
    refine g_iload_n dX1_setOut_4 rfl ?_
    refine g_aload_n dX1_setOut_5 rfl ?_
    refine t_getR dX1_setOut_6 fl_X1_18 rfl (by decide) rfl (by decide) rfl ?_
    refine t_alen dX1_setOut_9 rfl (by decide) ?_
    refine g_icmp_ge (tgt := 20) dX1_setOut_10 (by decide) (fun c10 => ?_) (fun c10 => ?_)
    · exact absurd (nI_lt hp (by decide)) (Int32.not_lt.mpr c10)
    · skip
      refine g_aload_n dX1_setOut_13 rfl ?_
      refine t_getR dX1_setOut_14 fl_X1_18 rfl (by decide) rfl (by decide) rfl ?_
      refine g_iload_n dX1_setOut_17 rfl ?_
      refine g_iload_n dX1_setOut_18 rfl ?_
      refine t_iast dX1_setOut_19 rfl (by decide) (in_nI hp (by decide)) ?_
      refine g_vret dX1_setOut_20 ?_
      rw [cl_nI (by omega)]
      refine ⟨_, rfl, ⟨Fr.rf.up (by decide), by rw [upR_n (by decide)]⟩, ?_, ?_, fun q hq => ?_, fun x h1 h2 => ?_⟩
      · rw [upR_n (by decide)]; exact hE.1
      · rw [upR_n (by decide)]; exact hE.2.1
      · show (upR (β := Nat → Int32) _ 28 _) 28 q = zI (upR s.2.2.1 p z q)
        rw [upR_s]
        by_cases e : q = p
        · subst e; rw [pk_us, upR_s]
        · rw [pk_un e, upR_n e]; exact hE.2.2.1 q hq
      · rw [upR_n (by decide)]; exact hE.2.2.2 x h1 h2
theorem ct_beginAt {x : Nat} (g0 : Nat → Nat) : Ct X (d + 1) 66 M_X1_beginAt 66 [.ref 25, .int (nI x)] (I, J, rf0) (RV (fun m => ∃ I', m = (I', J, rf0) ∧ FrE I I' ∧ EsC (ev0 x g0) I')) := by
  show Go _ _ _ _ _ _ [_, _] _ _ _
  refine g_aload_n dX1_beginAt_0 rfl ?_
  refine g_iload_n dX1_beginAt_1 rfl ?_
  refine t_putI dX1_beginAt_2 fl_X1_25 rfl (by decide) rfl (by decide) ?_
  refine g_aload_n dX1_beginAt_5 rfl ?_
  refine g_iload_n dX1_beginAt_6 rfl ?_
  refine t_putI dX1_beginAt_7 fl_X1_37 rfl (by decide) rfl (by decide) ?_
  refine g_aload_n dX1_beginAt_10 rfl ?_
  refine t_getR dX1_beginAt_11 fl_X1_18 rfl (by decide) rfl (by decide) rfl ?_
  refine g_iconst (v := 0) dX1_beginAt_14 (by decide) ?_
  refine g_callSv dX1_beginAt_15 ln_X1_75 rfl rfl (Nat.le_of_ble_eq_true rfl) (Nat.le_of_ble_eq_true rfl) (ct_fill0 rfl (by decide) (by decide)) rfl (fun m15 h15 => ?_)
  obtain ⟨g, rfl, hg, -⟩ := h15
  refine g_vret dX1_beginAt_18 ?_
  refine ⟨_, rfl, ⟨((Fr.rf.up (by decide)).up (by decide)).up (by decide), ?_⟩, ?_, ?_, fun q hq => ?_, fun y h1 h2 => ?_⟩
  · rw [upR_n (by decide), upR_s, pk_un (by decide), upR_s, pk_un (by decide)]
  · show (upR (β := Nat → Int32) _ 28 _) 25 5 = nI x
    rw [upR_n (by decide), upR_s, pk_un (by decide), upR_s, pk_us]
  · show (upR (β := Nat → Int32) _ 28 _) 25 6 = nI x
    rw [upR_n (by decide), upR_s, pk_us]
  · show (upR (β := Nat → Int32) _ 28 _) 28 q = zI 0
    rw [upR_s, hg q hq]; rfl
  · have h1' : x ≤ y := h1
    have h2' : y < x := h2
    omega
theorem enc_d {d : Deed} (h1 : d.1 ≤ 3) (h2 : d.2.1 < 4) (h3 : d.2.2 < 16) : encD d < 256 ∧ encD d / 16 % 4 = d.2.1 ∧ encD d % 16 = d.2.2 ∧ encD d / 64 = d.1 := by
  unfold encD
  omega
theorem ct_apply {P : Pce} {s : Evs} {e : Deed} (hP : PcC P I) (hO : PcOK P) (hE : EsC s I) (hR : EvR s) (hok : evOK P s e) : Ct X (d + 3) 66 M_X1_apply 66 [.ref 25, .int (nI (encD e))] (I, J, rf0) (RV (fun m => ∃ I', m = (I', J, rf0) ∧ FrE I I' ∧ EsC (evStep P s e) I')) := by
  have h14 := hO.2.1
  have h4 := hO.1
  have hr := hR.1
  obtain ⟨b1, b2, b3⟩ := evOK_b hO hok
  obtain ⟨e1, e2, e3, e4⟩ := enc_d b1 b2 b3
  show Go _ _ _ _ _ _ [_, _, _, _] _ _ _
  refine g_iload_n dX1_apply_0 rfl ?_
  refine g_bipush (v := 16) dX1_apply_1 (by decide) ?_
  refine g_idiv dX1_apply_3 (by decide) ?_
  refine g_iconst (v := 4) dX1_apply_4 (by decide) ?_
  refine g_irem dX1_apply_5 (by decide) ?_
  rw [show (16 : Int32) = nI 16 from rfl, pk_div (by omega) (by decide) (by decide), show (4 : Int32) = nI 4 from rfl, pk_rem (by omega) (by decide) (by decide), e2]
  refine g_istore_n dX1_apply_6 (by decide) ?_
  show Go _ _ _ _ _ _ [_, _, _, _] _ _ _
  refine g_iload_n dX1_apply_7 rfl ?_
  refine g_bipush (v := 16) dX1_apply_8 (by decide) ?_
  refine g_irem dX1_apply_10 (by decide) ?_
  rw [show (16 : Int32) = nI 16 from rfl, pk_rem (by omega) (by decide) (by decide), e3]
  refine g_istore_n dX1_apply_11 (by decide) ?_
  show Go _ _ _ _ _ _ [_, _, _, _] _ _ _
  refine g_iload_n dX1_apply_12 rfl ?_
  refine g_bipush (v := 64) dX1_apply_13 (by decide) ?_
  refine g_idiv dX1_apply_15 (by decide) ?_
  rw [show (64 : Int32) = nI 64 from rfl, pk_div (by omega) (by decide) (by decide), e4]
  obtain ⟨k, p, w⟩ := e
  dsimp only
  rcases evOK_k hok with rfl | rfl | rfl | rfl
  · skip
    have hk : s.1 < P.2.1 := hok.1
    refine g_tabIn (off := 28) (tgt := 44) dX1_apply_16 (by decide) (by decide) (by decide) (by decide) ?_
    refine g_aload_n dX1_apply_44 rfl ?_
    refine g_aload_n dX1_apply_45 rfl ?_
    refine t_getR dX1_apply_46 fl_X1_21 rfl (by decide) rfl (by decide) rfl ?_
    refine g_aload_n dX1_apply_49 rfl ?_
    refine t_getI dX1_apply_50 fl_X1_25 rfl (by decide) rfl (by decide) ?_
    refine g_aload_n dX1_apply_53 rfl ?_
    refine t_getR dX1_apply_54 fl_X1_18 rfl (by decide) rfl (by decide) rfl ?_
    rw [hE.1]
    refine g_callVi dX1_apply_57 ln_X1_64 ⟨_, rfl⟩ rfl (by decide) ⟨_, _, rfl⟩ rfl (Nat.le_of_ble_eq_true rfl) (Nat.le_of_ble_eq_true rfl) (ct_heardOn hP hO hk hR.2.2.1 (OA.of hE.2.2.1 rfl (by decide))) rfl (fun r57 m57 h57 => ?_)
    obtain ⟨rfl, rfl⟩ := h57
    refine g_callVv dX1_apply_60 ln_X1_68 rfl rfl (by decide) ⟨_, _, rfl⟩ rfl (Nat.le_of_ble_eq_true rfl) (Nat.le_of_ble_eq_true rfl) (ct_goOn hE hR (by omega)) rfl (fun m60 h60 => ?_)
    obtain ⟨I1, rfl, hf, hE1⟩ := h60
    refine g_goto (tgt := 101) dX1_apply_63 (by decide) ?_
    refine g_vret dX1_apply_101 ?_
    exact ⟨I1, rfl, hf, hE1⟩
  · skip
    have hk : p < 4 := b2
    refine g_tabIn (off := 50) (tgt := 66) dX1_apply_16 (by decide) (by decide) (by decide) (by decide) ?_
    refine g_aload_n dX1_apply_66 rfl ?_
    refine g_iload_n dX1_apply_67 rfl ?_
    refine g_aload_n dX1_apply_68 rfl ?_
    refine g_iload_n dX1_apply_69 rfl ?_
    refine g_callVi dX1_apply_70 ln_X1_40 ⟨_, rfl⟩ rfl (by decide) ⟨_, _, rfl⟩ rfl (Nat.le_of_ble_eq_true rfl) (Nat.le_of_ble_eq_true rfl) (ct_outOf hE.2.2.1 hk) rfl (fun r70 m70 h70 => ?_)
    obtain ⟨rfl, rfl⟩ := h70
    refine g_iload_n dX1_apply_73 rfl ?_
    refine g_iadd dX1_apply_74 ?_
    refine g_iconst (v := 1) dX1_apply_75 (by decide) ?_
    refine g_isub dX1_apply_76 ?_
    rw [show zI (s.2.2.1 p) + nI w - 1 = zI (s.2.2.1 p + (w : Int) - 1) by rw [nI_z, z_add, show (1 : Int32) = zI 1 from rfl, z_sub]]
    refine g_callVv dX1_apply_77 ln_X1_71 rfl rfl (by decide) ⟨_, _, rfl⟩ rfl (Nat.le_of_ble_eq_true rfl) (Nat.le_of_ble_eq_true rfl) (ct_setOut hE hk) rfl (fun m77 h77 => ?_)
    obtain ⟨I1, rfl, hf, hE1⟩ := h77
    refine g_goto (tgt := 101) dX1_apply_80 (by decide) ?_
    refine g_vret dX1_apply_101 ?_
    exact ⟨I1, rfl, hf, hE1⟩
  · skip
    have hk : p < 4 := b2
    have hw : w < P.1 := hok.2
    refine g_tabIn (off := 67) (tgt := 83) dX1_apply_16 (by decide) (by decide) (by decide) (by decide) ?_
    refine g_aload_n dX1_apply_83 rfl ?_
    refine g_iload_n dX1_apply_84 rfl ?_
    refine g_aload_n dX1_apply_85 rfl ?_
    refine g_iload_n dX1_apply_86 rfl ?_
    refine g_callVi dX1_apply_87 ln_X1_40 ⟨_, rfl⟩ rfl (by decide) ⟨_, _, rfl⟩ rfl (Nat.le_of_ble_eq_true rfl) (Nat.le_of_ble_eq_true rfl) (ct_outOf (p := w) hE.2.2.1 (by omega)) rfl (fun r87 m87 h87 => ?_)
    obtain ⟨rfl, rfl⟩ := h87
    refine g_callVv dX1_apply_90 ln_X1_71 rfl rfl (by decide) ⟨_, _, rfl⟩ rfl (Nat.le_of_ble_eq_true rfl) (Nat.le_of_ble_eq_true rfl) (ct_setOut hE hk) rfl (fun m90 h90 => ?_)
    obtain ⟨I1, rfl, hf, hE1⟩ := h90
    refine g_goto (tgt := 101) dX1_apply_93 (by decide) ?_
    refine g_vret dX1_apply_101 ?_
    exact ⟨I1, rfl, hf, hE1⟩
  · skip
    skip
    refine g_tabOut (tgt := 96) dX1_apply_16 (by decide) (by decide) ?_
    refine g_aload_n dX1_apply_96 rfl ?_
    refine g_iload_n dX1_apply_97 rfl ?_
    refine g_callVv dX1_apply_98 ln_X1_57 rfl rfl (by decide) ⟨_, _, rfl⟩ rfl (Nat.le_of_ble_eq_true rfl) (Nat.le_of_ble_eq_true rfl) (ct_beginAt (x := w) s.2.2.2) rfl (fun m98 h98 => ?_)
    obtain ⟨I1, rfl, hf, hE1⟩ := h98
    refine g_vret dX1_apply_101 ?_
    exact ⟨I1, rfl, hf, hE1⟩
theorem ct_act {P : Pce} {ds : List Deed} {k p w : Nat} (hP : PcC P I) (hO : PcOK P) (hE : EvC P ds I) (hD : DsOK P ds) (hl : ds.length < 40) (hok : evOK P (evO P ds) (k, p, w)) : Ct X (d + 4) 66 M_X1_act 66 [.ref 25, .int (nI k), .int (nI p), .int (nI w)] (I, J, rf0) (RV (fun m => ∃ I', m = (I', J, rf0) ∧ Fr [25, 26, 27, 28] I I' ∧ EvC P (ds ++ [(k, p, w)]) I')) := by
  have hR : EvR (evO P ds) := EvR.e.run hO hD.2
  obtain ⟨b1, b2, b3⟩ := evOK_b hO hok
  show Go _ _ _ _ _ _ [_, _, _, _] _ _ _
  refine g_aload_n dX1_act_0 rfl ?_
  refine g_callVi dX1_act_1 ln_X1_49 ⟨_, rfl⟩ rfl (by decide) ⟨_, _, rfl⟩ rfl (Nat.le_of_ble_eq_true rfl) (Nat.le_of_ble_eq_true rfl) (ct_isFullC hE.1 (by omega)) rfl (fun r1 m1 h1 => ?_)
  obtain ⟨rfl, rfl⟩ := h1
  refine g_if_eq (tgt := 8) dX1_act_4 (by decide) (fun c4 => ?_) (fun c4 => ?_)
  · skip
    refine g_aload_n dX1_act_8 rfl ?_
    refine t_getR dX1_act_9 fl_X1_15 rfl (by decide) rfl (by decide) rfl ?_
    refine g_aload_n dX1_act_12 rfl ?_
    refine t_getI dX1_act_13 fl_X1_34 rfl (by decide) rfl (by decide) ?_
    refine g_iload_n dX1_act_16 rfl ?_
    refine g_bipush (v := 64) dX1_act_17 (by decide) ?_
    refine g_imul dX1_act_19 ?_
    refine g_iload_n dX1_act_20 rfl ?_
    refine g_bipush (v := 16) dX1_act_21 (by decide) ?_
    refine g_imul dX1_act_23 ?_
    refine g_iadd dX1_act_24 ?_
    refine g_iload_n dX1_act_25 rfl ?_
    refine g_iadd dX1_act_26 ?_
    rw [hE.1]
    refine t_iast dX1_act_27 rfl (by decide) (in_nI hl (by decide)) ?_
    rw [cl_nI (by omega), show nI k * 64 + nI p * 16 + nI w = nI (encD (k, p, w)) by rw [show (64 : Int32) = nI 64 from rfl, show (16 : Int32) = nI 16 from rfl, pk_mul, pk_mul, nI_add, nI_add]; rfl]
    obtain ⟨I1, hI1⟩ : ∃ I1, I1 = upR I 27 (upd (I 27) ds.length (nI (encD (k, p, w)))) := ⟨_, rfl⟩
    rw [← hI1]
    have hne : ∀ q, q ≠ 27 → I1 q = I q := fun q hq => by rw [hI1]; exact upR_n hq
    have h25 : I1 25 4 = nI ds.length := by rw [hne 25 (by decide)]; exact hE.1
    have hP1 : PcC P I1 := hP.keep (by rw [hne 22 (by decide)]) (by rw [hne 22 (by decide)]) (hne 23 (by decide)) (hne 24 (by decide))
    have hE1 : EsC (evO P ds) I1 := ⟨by rw [hne 25 (by decide)]; exact hE.2.2.1, by rw [hne 25 (by decide)]; exact hE.2.2.2.1, hE.2.2.2.2.1.keep (hne 28 (by decide)), fun x a b => by rw [hne 26 (by decide)]; exact hE.2.2.2.2.2 x a b⟩
    refine g_aload_n dX1_act_28 rfl ?_
    refine g_aload_n dX1_act_29 rfl ?_
    refine t_getR dX1_act_30 fl_X1_15 rfl (by decide) rfl (by decide) rfl ?_
    refine g_aload_n dX1_act_33 rfl ?_
    refine t_getI dX1_act_34 fl_X1_34 rfl (by decide) rfl (by decide) ?_
    rw [h25]
    refine t_iald dX1_act_37 rfl (by decide) (in_nI hl (by decide)) ?_
    rw [cl_nI (by omega), show I1 27 ds.length = nI (encD (k, p, w)) by rw [hI1, upR_s, pk_us]]
    refine g_callVv dX1_act_38 ln_X1_53 rfl rfl (by decide) ⟨_, _, rfl⟩ rfl (Nat.le_of_ble_eq_true rfl) (Nat.le_of_ble_eq_true rfl) (ct_apply hP1 hO hE1 hR hok) rfl (fun m38 h38 => ?_)
    obtain ⟨I2, rfl, hfr, hE2⟩ := h38
    refine g_aload_n dX1_act_41 rfl ?_
    refine g_dup dX1_act_42 rfl ?_
    refine t_getI dX1_act_43 fl_X1_34 rfl (by decide) rfl (by decide) ?_
    rw [hfr.2, h25]
    refine g_iconst (v := 1) dX1_act_46 (by decide) ?_
    refine g_iadd dX1_act_47 ?_
    refine t_putI dX1_act_48 fl_X1_34 rfl (by decide) rfl (by decide) ?_
    refine g_vret dX1_act_51 ?_
    refine ⟨_, rfl, ?_, ?_, ?_, ?_, ?_, ?_, ?_⟩
    · intro q hq
      have q1 : q ≠ 25 := fun e => hq (by rw [e]; decide)
      have q2 : q ∉ [25, 26, 28] := fun e => hq (by simp at e ⊢; omega)
      have q3 : q ≠ 27 := fun e => hq (by rw [e]; decide)
      rw [upR_n q1, hfr.1 q q2, hne q q3]
    · rw [upR_s, pk_us, List.length_append]; exact nI_1 _
    · intro i d' hd'
      rw [upR_n (by decide), hfr.1 27 (by decide), hI1, upR_s]
      rcases Nat.lt_or_ge i ds.length with q | q
      · rw [List.getElem?_append_left q] at hd'
        rw [pk_un (by omega)]; exact hE.2.1 i d' hd'
      · rw [List.getElem?_append_right q] at hd'
        have hi : i - ds.length = 0 := by
          have := (List.getElem?_eq_some_iff.mp hd').1
          simp at this; omega
        rw [hi] at hd'
        cases hd'
        rw [show i = ds.length by omega, pk_us]
    · rw [upR_s, pk_un (by decide), show evO P (ds ++ [(k, p, w)]) = evStep P (evO P ds) (k, p, w) from evRun_app P evE ds [(k, p, w)]]; exact hE2.1
    · rw [upR_s, pk_un (by decide), show evO P (ds ++ [(k, p, w)]) = evStep P (evO P ds) (k, p, w) from evRun_app P evE ds [(k, p, w)]]; exact hE2.2.1
    · rw [show evO P (ds ++ [(k, p, w)]) = evStep P (evO P ds) (k, p, w) from evRun_app P evE ds [(k, p, w)]]; exact hE2.2.2.1.keep (upR_n (by decide))
    · rw [show evO P (ds ++ [(k, p, w)]) = evStep P (evO P ds) (k, p, w) from evRun_app P evE ds [(k, p, w)]]
      intro x a b
      rw [upR_n (by decide)]; exact hE2.2.2.2 x a b
  · exact absurd (by rw [decide_eq_false (by omega)]; rfl) c4

theorem ct_replay {P : Pce} {ds : List Deed} {n : Nat} (hP : PcC P I) (hO : PcOK P) (hds : DsC 27 ds I) (hD : DsOK P ds) (hn : n ≤ ds.length) : Ct X (d + 4) 66 M_X1_replay 66 [.ref 25, .int (nI n)] (I, J, rf0) (RV (fun m => ∃ I', m = (I', J, rf0) ∧ Fr [25, 26, 28] I I' ∧ I' 25 4 = nI n ∧ EsC (evRun P evE (ds.take n)) I')) := by
  have h40 := hD.1
  show Go _ _ _ _ _ _ [_, _, _, _] _ _ _
  refine g_aload_n dX1_replay_0 rfl ?_
  refine g_iconst (v := 0) dX1_replay_1 (by decide) ?_
  refine g_callVv dX1_replay_2 ln_X1_57 rfl rfl (by decide) ⟨_, _, rfl⟩ rfl (Nat.le_of_ble_eq_true rfl) (Nat.le_of_ble_eq_true rfl) (ct_beginAt (x := 0) (fun _ => 0)) rfl (fun m2 h2 => ?_)
  obtain ⟨I1, rfl, hf1, hE1⟩ := h2
  refine g_iload_n dX1_replay_5 rfl ?_
  refine g_bipush (v := 40) dX1_replay_6 (by decide) ?_
  refine g_mmin dX1_replay_8 mm_X1_60 (Nat.le_of_ble_eq_true rfl) ?_
  rw [show (if (40 : Int32) < nI n then (40 : Int32) else nI n) = nI n from if_neg (fun q => absurd ((nI_ltI (a := 40) (b := n) (by decide) (by omega)).mp q) (by omega))]
  refine g_istore_n dX1_replay_11 (by decide) ?_
  show Go _ _ _ _ _ _ [_, _, _, _] _ _ _
  refine g_iconst (v := 0) dX1_replay_12 (by decide) ?_
  refine g_istore_n dX1_replay_13 (by decide) ?_
  show Go _ _ _ _ _ _ [_, _, _, _] _ _ _
  have key : ∀ (j i : Nat) (I2 : Nat → Nat → Int32), i + j = n → FrE I I2 → EsC (evRun P evE (ds.take i)) I2 → Go X (d + 4) 66 M_X1_replay 66 14 [.ref 25, .int (nI n), .int (nI n), .int (nI i)] [] (I2, J, rf0) (RV (fun m => ∃ I', m = (I', J, rf0) ∧ Fr [25, 26, 28] I I' ∧ I' 25 4 = nI n ∧ EsC (evRun P evE (ds.take n)) I')) := by
    intro j
    induction j with
    | zero =>
      intro i I2 hij hf hE
      have hin : i = n := by omega
      subst hin
      refine g_iload_n dX1_replay_14 rfl ?_
      refine g_iload_n dX1_replay_15 rfl ?_
      refine g_icmp_ge (tgt := 35) dX1_replay_16 (by decide) (fun c16 => ?_) (fun c16 => ?_)
      · refine g_aload_n dX1_replay_35 rfl ?_
        refine g_iload_n dX1_replay_36 rfl ?_
        refine t_putI dX1_replay_37 fl_X1_34 rfl (by decide) rfl (by decide) ?_
        refine g_vret dX1_replay_40 ?_
        refine ⟨_, rfl, hf.1.up (by decide), by rw [upR_s, pk_us], ?_, ?_, hE.2.2.1.keep (upR_n (by decide)), fun x a b => ?_⟩
        · rw [upR_s, pk_un (by decide)]; exact hE.1
        · rw [upR_s, pk_un (by decide)]; exact hE.2.1
        · rw [upR_n (by decide)]; exact hE.2.2.2 x a b
      · exact absurd (Int32.le_refl _) c16
    | succ j ih =>
      intro i I2 hij hf hE
      obtain ⟨d9, hd⟩ : ∃ d9, ds[i]? = some d9 := ⟨_, List.getElem?_eq_getElem (by omega)⟩
      refine g_iload_n dX1_replay_14 rfl ?_
      refine g_iload_n dX1_replay_15 rfl ?_
      refine g_icmp_ge (tgt := 35) dX1_replay_16 (by decide) (fun c16 => ?_) (fun c16 => ?_)
      · exact absurd (nI_lt (show i < n by omega) (by omega)) (Int32.not_lt.mpr c16)
      · refine g_aload_n dX1_replay_19 rfl ?_
        refine g_aload_n dX1_replay_20 rfl ?_
        refine t_getR dX1_replay_21 fl_X1_15 rfl (by decide) rfl (by decide) rfl ?_
        refine g_iload_n dX1_replay_24 rfl ?_
        refine t_iald dX1_replay_25 rfl (by decide) (in_nI (show i < 40 by omega) (by decide)) ?_
        rw [cl_nI (by omega), hf.1 27 (by decide), hds i d9 hd]
        refine g_callVv dX1_replay_26 ln_X1_53 rfl rfl (by decide) ⟨_, _, rfl⟩ rfl (Nat.le_of_ble_eq_true rfl) (Nat.le_of_ble_eq_true rfl) (ct_apply (hf.pc hP) hO hE (EvR.e.run hO (evAll_take i hD.2)) (evAll_at hD.2 hd)) rfl (fun m9 h9 => ?_)
        obtain ⟨I3, rfl, hf3, hE3⟩ := h9
        refine g_iinc dX1_replay_29 rfl (by decide) ?_
        show Go _ _ _ _ _ _ [_, _, _, _] _ _ _
        refine g_goto (tgt := 14) dX1_replay_32 (by decide) ?_
        rw [nI_inc]
        exact ih (i + 1) I3 (by omega) (hf.tr hf3) (by rw [run_take hd]; exact hE3)
  exact key n 0 I1 (by omega) hf1 hE1
end
