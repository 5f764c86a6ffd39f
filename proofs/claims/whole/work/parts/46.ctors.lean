section
variable {X : Nat × (Nat → Int32)} {d : Nat} {I : Nat → Nat → Int32} {J : Nat → Nat → Int64}
/-! ===== the constructors ===== -/
section
variable {d N1 : Nat} {M : Mth} {N pc : Nat} {L S : List Value} {F : Nat → Nat → Option Nat} {Φ : Option Value → Mem → Prop}
theorem t_mnewI {n k idx N2 : Nat} {ni ki : Int32} (hd : decode M.2.1 pc = .ok (.multianewarray idx 2, 4)) (hlk : Cond.classLink M.1.cls idx ("[" ++ (FieldType.array .int).toString) ∈ gw_tbl) (hac : Cond.arrayClass .int ∈ gw_tbl) (hs : shp N = (1, 3, n)) (hsi : ∀ j, j < n → shp (N + 1 + j) = (1, 0, k)) (hn0 : ¬ ni < 0) (hk0 : ¬ ki < 0) (hn : ni.toNatClampNeg = n) (hk : ki.toNatClampNeg = k) (hsm : n ≤ 100 ∧ k ≤ 1000) (hN2 : N2 = N + 1 + n) (hN : N2 ≤ N1) (h66 : N2 ≤ 66) (hks : ks N2 = ks N + n + n * k) (hok : okR N N2 (L ++ S) = true) (hI : ∀ a, N ≤ a → I a = fun _ => 0) (hF : F N = fun j => if j < n then some (N + 1 + j) else none) (hF2 : ∀ a, N < a → a < N2 → F a = fun _ => none) (kk : Go X d N1 M N2 (pc + 4) L (.ref N :: S) (I, J, F) Φ) : Go X d N1 M N pc L (.int ki :: .int ni :: S) (I, J, F) Φ := by
  intro p l e R s m args below meth c D cA A N0 Q α H locs ls cx w h0 h1 hl en
  obtain ⟨ok1, ok2⟩ := okR_two hok
  have k1 := ks_le h0
  have k3 := ks_le hN
  have hrm := cx.2.2.2.2.2.1
  have hK := cx.2.2.2.2.2.2.1
  have hAx := cx.2.2.2.2.2.2.2.2.2.2.2
  have hAA := cx.2.2.2.2.2.2.2.1
  refine W.mnew (ty := .int) (own := M.1.cls) (index := idx) (n := n) (k := k) cx.1 cx.2.1 cx.2.2.2.1 (cx.2.2.2.2.1 _ hlk) (show (Cond.arrayOver (.array .int)).before #[] s = true from hAx.1) (cx.2.2.2.2.1 _ hac) hd hn hk hn0 hk0 (by omega) (by show k * 4 ≤ _; omega) (by omega) rfl (by have := hrm.2.2.1; omega) (by have := hrm.2.2.2; omega) (fun H1 ca cb hca hcb hsz hold hout hinn => ?_)
  have e1 : ca = cA 3 := Option.some.inj (hca.symm.trans (show s.vm.findClass _ = some (cA 3) from (hK.2 3 (cA 3, arrT 3) rfl).2))
  have e2 : cb = cA 0 := Option.some.inj (hcb.symm.trans (show s.vm.findClass _ = some (cA 0) from (hK.2 0 (cA 0, arrT 0) rfl).2))
  subst e1
  subst e2
  obtain ⟨β, hβ⟩ : ∃ β : Nat → Nat, β = fun a => if N ≤ a ∧ a < N2 then H.size + (a - N) else α a := ⟨_, rfl⟩
  have hin : ∀ a, N ≤ a → a < N2 → β a = H.size + (a - N) := fun a h1 h2 => by rw [hβ]; exact if_pos ⟨h1, h2⟩
  have hout' : ∀ a, ¬ (N ≤ a ∧ a < N2) → β a = α a := fun a h1 => by rw [hβ]; exact if_neg h1
  have hlt : ∀ a, a < N → α a < H.size := fun a ha => (w.1 a _ (wl_get ha)).lt
  have hle := w.2.2.1.1
  have hP2 : va_P D classes (wl cA N2 β (I, J, F)) H1 := by
    intro i q hq
    obtain ⟨hi, rfl⟩ := wl_inv hq
    rcases Nat.lt_or_ge i N with q1 | q1
    · have e : (β i, cellE cA β (I, J, F) i) = (α i, cellE cA α (I, J, F) i) := by
        rw [hout' i (by omega), cell_same w.2.2.2.1 q1 rfl rfl rfl (fun t ht => hout' t (by omega))]
      rw [e]
      exact (w.1 i _ (wl_get q1)).kept (hold _ (hlt i q1))
    · rcases Nat.lt_or_ge N i with q2 | q2
      · obtain ⟨j, rfl⟩ : ∃ j, i = N + 1 + j := ⟨i - (N + 1), by omega⟩
        rw [cell_a (hsi j (by omega)), hin _ q1 hi]
        show H1[H.size + (N + 1 + j - N)]? = some (vp_cell (cA 0) (k, .inl (I (N + 1 + j))))
        rw [hI _ q1, show H.size + (N + 1 + j - N) = H.size + 1 + j by omega, hinn j (by omega)]
        rfl
      · obtain rfl : i = N := by omega
        rw [cell_a hs, hin _ q1 hi]
        show H1[H.size + (i - i)]? = some (vp_cell (cA 3) (n, .inr (.inr (.inr (.inr (fun j => (F i j).map β))))))
        rw [Nat.sub_self, Nat.add_zero, hout]
        rw [vp_cell_q]
        congr 2
        funext j
        rw [hF]
        show va_rf (if j < n then some (H.size + 1 + j) else none) = va_rf (Option.map β (if j < n then some (i + 1 + j) else none))
        by_cases hj : j < n
        · rw [if_pos hj, if_pos hj]
          show va_rf (some (H.size + 1 + j)) = va_rf (some (β (i + 1 + j)))
          rw [hin _ (by omega) (by omega), show H.size + (i + 1 + j - i) = H.size + 1 + j by omega]
        · rw [if_neg hj, if_neg hj]; rfl
  have hD2 : DA A N2 β := by
    refine ⟨fun i j hi hj he => ?_, fun i hi => ?_⟩
    · rcases Nat.lt_or_ge i N with a1 | a1 <;> rcases Nat.lt_or_ge j N with b1 | b1
      · rw [hout' i (by omega), hout' j (by omega)] at he
        exact w.2.1.1 i j a1 b1 he
      · rw [hout' i (by omega), hin j b1 hj] at he
        have := hlt i a1
        omega
      · rw [hin i a1 hi, hout' j (by omega)] at he
        have := hlt j b1
        omega
      · rw [hin i a1 hi, hin j b1 hj] at he
        omega
    · rcases Nat.lt_or_ge i N with a1 | a1
      · rw [hout' i (by omega)]; exact w.2.1.2 i a1
      · rw [hin i a1 hi]; exact hAA _ (by omega)
  have hw2 : Wd D cA A s.heap N2 β (I, J, F) H1 (locs ++ (List.range n).map fun j => ⟨H.size, j⟩) := by
    refine ⟨hP2, hD2, ⟨by omega, fun q a b => (hold q (by omega)).trans (w.2.2.1.2.1 q a b), fun x hx => ?_⟩, fun a ha j t ht => ?_, h66⟩
    · rcases List.mem_append.mp hx with q | q
      · exact w.2.2.1.2.2 x q
      · obtain ⟨j, -, rfl⟩ := List.mem_map.mp q
        exact hAA _ hle
    · have ht' : F a j = some t := ht
      rcases Nat.lt_or_ge a N with a1 | a1
      · have := w.2.2.2.1 a a1 j t ht
        omega
      · rcases Nat.lt_or_ge N a with a2 | a2
        · rw [hF2 a a2 ha] at ht'; cases ht'
        · obtain rfl : a = N := by omega
          rw [hF] at ht'
          have ht2 : (if j < n then some (a + 1 + j) else none) = some t := ht'
          by_cases hj : j < n
          · rw [if_pos hj] at ht2; cases ht2; omega
          · rw [if_neg hj] at ht2; cases ht2
  have hg := g_grow (N2 := N2) cx h0 (by omega) hN h66 hl en hw2 hout' ok1 kk
  rw [show N - N0 + 1 + n = N2 - N0 by omega, show ks N - ks N0 + n + n * k = ks N2 - ks N0 by omega]
  rw [okR_map ok2 hout']
  have e9 : (Value.ref N :: S).map (cv β) = .ref H.size :: S.map (cv β) := by
    rw [List.map_cons]
    show Value.ref (β N) :: _ = _
    rw [hin N (Nat.le_refl _) (by omega), Nat.sub_self, Nat.add_zero]
  rw [e9] at hg
  exact hg
theorem t_mnewB {n k idx N2 : Nat} {ni ki : Int32} (hd : decode M.2.1 pc = .ok (.multianewarray idx 2, 4)) (hlk : Cond.classLink M.1.cls idx ("[" ++ (FieldType.array .byte).toString) ∈ gw_tbl) (hac : Cond.arrayClass .byte ∈ gw_tbl) (hs : shp N = (1, 4, n)) (hsi : ∀ j, j < n → shp (N + 1 + j) = (1, 1, k)) (hn0 : ¬ ni < 0) (hk0 : ¬ ki < 0) (hn : ni.toNatClampNeg = n) (hk : ki.toNatClampNeg = k) (hsm : n ≤ 100 ∧ k ≤ 1000) (hN2 : N2 = N + 1 + n) (hN : N2 ≤ N1) (h66 : N2 ≤ 66) (hks : ks N2 = ks N + n + n * k) (hok : okR N N2 (L ++ S) = true) (hI : ∀ a, N ≤ a → I a = fun _ => 0) (hF : F N = fun j => if j < n then some (N + 1 + j) else none) (hF2 : ∀ a, N < a → a < N2 → F a = fun _ => none) (kk : Go X d N1 M N2 (pc + 4) L (.ref N :: S) (I, J, F) Φ) : Go X d N1 M N pc L (.int ki :: .int ni :: S) (I, J, F) Φ := by
  intro p l e R s m args below meth c D cA A N0 Q α H locs ls cx w h0 h1 hl en
  obtain ⟨ok1, ok2⟩ := okR_two hok
  have k1 := ks_le h0
  have k3 := ks_le hN
  have hrm := cx.2.2.2.2.2.1
  have hK := cx.2.2.2.2.2.2.1
  have hAx := cx.2.2.2.2.2.2.2.2.2.2.2
  have hAA := cx.2.2.2.2.2.2.2.1
  refine W.mnew (ty := .byte) (own := M.1.cls) (index := idx) (n := n) (k := k) cx.1 cx.2.1 cx.2.2.2.1 (cx.2.2.2.2.1 _ hlk) (show (Cond.arrayOver (.array .byte)).before #[] s = true from hAx.2) (cx.2.2.2.2.1 _ hac) hd hn hk hn0 hk0 (by omega) (by show k * 1 ≤ _; omega) (by omega) rfl (by have := hrm.2.2.1; omega) (by have := hrm.2.2.2; omega) (fun H1 ca cb hca hcb hsz hold hout hinn => ?_)
  have e1 : ca = cA 4 := Option.some.inj (hca.symm.trans (show s.vm.findClass _ = some (cA 4) from (hK.2 4 (cA 4, arrT 4) rfl).2))
  have e2 : cb = cA 1 := Option.some.inj (hcb.symm.trans (show s.vm.findClass _ = some (cA 1) from (hK.2 1 (cA 1, arrT 1) rfl).2))
  subst e1
  subst e2
  obtain ⟨β, hβ⟩ : ∃ β : Nat → Nat, β = fun a => if N ≤ a ∧ a < N2 then H.size + (a - N) else α a := ⟨_, rfl⟩
  have hin : ∀ a, N ≤ a → a < N2 → β a = H.size + (a - N) := fun a h1 h2 => by rw [hβ]; exact if_pos ⟨h1, h2⟩
  have hout' : ∀ a, ¬ (N ≤ a ∧ a < N2) → β a = α a := fun a h1 => by rw [hβ]; exact if_neg h1
  have hlt : ∀ a, a < N → α a < H.size := fun a ha => (w.1 a _ (wl_get ha)).lt
  have hle := w.2.2.1.1
  have hP2 : va_P D classes (wl cA N2 β (I, J, F)) H1 := by
    intro i q hq
    obtain ⟨hi, rfl⟩ := wl_inv hq
    rcases Nat.lt_or_ge i N with q1 | q1
    · have e : (β i, cellE cA β (I, J, F) i) = (α i, cellE cA α (I, J, F) i) := by
        rw [hout' i (by omega), cell_same w.2.2.2.1 q1 rfl rfl rfl (fun t ht => hout' t (by omega))]
      rw [e]
      exact (w.1 i _ (wl_get q1)).kept (hold _ (hlt i q1))
    · rcases Nat.lt_or_ge N i with q2 | q2
      · obtain ⟨j, rfl⟩ : ∃ j, i = N + 1 + j := ⟨i - (N + 1), by omega⟩
        rw [cell_a (hsi j (by omega)), hin _ q1 hi]
        show H1[H.size + (N + 1 + j - N)]? = some (vp_cell (cA 1) (k, .inl (I (N + 1 + j))))
        rw [hI _ q1, show H.size + (N + 1 + j - N) = H.size + 1 + j by omega, hinn j (by omega)]
        rfl
      · obtain rfl : i = N := by omega
        rw [cell_a hs, hin _ q1 hi]
        show H1[H.size + (i - i)]? = some (vp_cell (cA 4) (n, .inr (.inr (.inr (.inr (fun j => (F i j).map β))))))
        rw [Nat.sub_self, Nat.add_zero, hout]
        rw [vp_cell_q]
        congr 2
        funext j
        rw [hF]
        show va_rf (if j < n then some (H.size + 1 + j) else none) = va_rf (Option.map β (if j < n then some (i + 1 + j) else none))
        by_cases hj : j < n
        · rw [if_pos hj, if_pos hj]
          show va_rf (some (H.size + 1 + j)) = va_rf (some (β (i + 1 + j)))
          rw [hin _ (by omega) (by omega), show H.size + (i + 1 + j - i) = H.size + 1 + j by omega]
        · rw [if_neg hj, if_neg hj]; rfl
  have hD2 : DA A N2 β := by
    refine ⟨fun i j hi hj he => ?_, fun i hi => ?_⟩
    · rcases Nat.lt_or_ge i N with a1 | a1 <;> rcases Nat.lt_or_ge j N with b1 | b1
      · rw [hout' i (by omega), hout' j (by omega)] at he
        exact w.2.1.1 i j a1 b1 he
      · rw [hout' i (by omega), hin j b1 hj] at he
        have := hlt i a1
        omega
      · rw [hin i a1 hi, hout' j (by omega)] at he
        have := hlt j b1
        omega
      · rw [hin i a1 hi, hin j b1 hj] at he
        omega
    · rcases Nat.lt_or_ge i N with a1 | a1
      · rw [hout' i (by omega)]; exact w.2.1.2 i a1
      · rw [hin i a1 hi]; exact hAA _ (by omega)
  have hw2 : Wd D cA A s.heap N2 β (I, J, F) H1 (locs ++ (List.range n).map fun j => ⟨H.size, j⟩) := by
    refine ⟨hP2, hD2, ⟨by omega, fun q a b => (hold q (by omega)).trans (w.2.2.1.2.1 q a b), fun x hx => ?_⟩, fun a ha j t ht => ?_, h66⟩
    · rcases List.mem_append.mp hx with q | q
      · exact w.2.2.1.2.2 x q
      · obtain ⟨j, -, rfl⟩ := List.mem_map.mp q
        exact hAA _ hle
    · have ht' : F a j = some t := ht
      rcases Nat.lt_or_ge a N with a1 | a1
      · have := w.2.2.2.1 a a1 j t ht
        omega
      · rcases Nat.lt_or_ge N a with a2 | a2
        · rw [hF2 a a2 ha] at ht'; cases ht'
        · obtain rfl : a = N := by omega
          rw [hF] at ht'
          have ht2 : (if j < n then some (a + 1 + j) else none) = some t := ht'
          by_cases hj : j < n
          · rw [if_pos hj] at ht2; cases ht2; omega
          · rw [if_neg hj] at ht2; cases ht2
  have hg := g_grow (N2 := N2) cx h0 (by omega) hN h66 hl en hw2 hout' ok1 kk
  rw [show N - N0 + 1 + n = N2 - N0 by omega, show ks N - ks N0 + n + n * k = ks N2 - ks N0 by omega]
  rw [okR_map ok2 hout']
  have e9 : (Value.ref N :: S).map (cv β) = .ref H.size :: S.map (cv β) := by
    rw [List.map_cons]
    show Value.ref (β N) :: _ = _
    rw [hin N (Nat.le_refl _) (by omega), Nat.sub_self, Nat.add_zero]
  rw [e9] at hg
  exact hg
end
theorem nl_L_7 : NL RL 7 10 14 := ⟨RX10, TX10, rfl, gnX10, tyX10_ok, tb_18, tb_19, tb_1, by decide⟩
theorem nl_L_10 : NL RL 10 11 28 := ⟨RX11, TX11, rfl, gnX11, tyX11_ok, tb_988, tb_989, tb_14, by decide⟩
theorem nl_X10_7 : NL RX10 7 5 2 := ⟨RX5, TX5, rfl, gnX5, tyX5_ok, tb_26, tb_27, tb_2, by decide⟩
theorem nl_X10_16 : NL RX10 16 9 2 := ⟨RX9, TX9, rfl, gnX9, tyX9_ok, tb_59, tb_60, tb_6, by decide⟩
theorem nl_X10_23 : NL RX10 23 4 8 := ⟨RX4, TX4, rfl, gnX4, tyX4_ok, tb_79, tb_80, tb_7, by decide⟩
theorem nl_X10_32 : NL RX10 32 3 4 := ⟨RX3, TX3, rfl, gnX3, tyX3_ok, tb_114, tb_115, tb_8, by decide⟩
theorem nl_X10_39 : NL RX10 39 1 7 := ⟨RX1, TX1, rfl, gnX1, tyX1_ok, tb_140, tb_141, tb_9, by decide⟩
theorem nl_X10_48 : NL RX10 48 6 2 := ⟨RX6, TX6, rfl, gnX6, tyX6_ok, tb_176, tb_177, tb_10, by decide⟩
theorem nl_X10_55 : NL RX10 55 0 12 := ⟨RX0, TX0, rfl, gnX0, tyX0_ok, tb_193, tb_194, tb_11, by decide⟩
theorem nl_X10_64 : NL RX10 64 8 3 := ⟨RX8, TX8, rfl, gnX8, tyX8_ok, tb_242, tb_243, tb_12, by decide⟩
theorem nl_X10_71 : NL RX10 71 2 4 := ⟨RX2, TX2, rfl, gnX2, tyX2_ok, tb_258, tb_259, tb_13, by decide⟩
theorem nl_X5_7 : NL RX5 7 7 1 := ⟨RX7, TX7, rfl, gnX7, tyX7_ok, tb_32, tb_33, tb_3, by decide⟩
theorem nl_X6_9 : NL RX6 9 7 1 := ⟨RX7, TX7, rfl, gnX7, tyX7_ok, tb_182, tb_33, tb_3, by decide⟩
theorem nl_X9_7 : NL RX9 7 7 1 := ⟨RX7, TX7, rfl, gnX7, tyX7_ok, tb_65, tb_33, tb_3, by decide⟩
theorem oin : Cond.instanceMethod Lib.objectInit ∈ gw_tbl := tb_24
theorem ocd : Cond.code Lib.objectInit ⟨#[0xb1]⟩ 1 none ∈ gw_tbl := tb_25
theorem row_0 : rf0 0 = (va_up (va_up (va_up (va_up (va_up (va_up (va_up (va_up (va_up (va_up (fun _ => none) 0 (some 1)) 1 (some 11)) 2 (some 19)) 3 (some 22)) 4 (some 25)) 5 (some 29)) 6 (some 36)) 7 (some 40)) 8 (some 43)) 9 (some 47)) := funext fun j => by
  rcases (show j = 0 ∨ j = 1 ∨ j = 2 ∨ j = 3 ∨ j = 4 ∨ j = 5 ∨ j = 6 ∨ j = 7 ∨ j = 8 ∨ j = 9 ∨ 10 ≤ j by omega) with rfl | rfl | rfl | rfl | rfl | rfl | rfl | rfl | rfl | rfl | h
  · rfl
  · rfl
  · rfl
  · rfl
  · rfl
  · rfl
  · rfl
  · rfl
  · rfl
  · rfl
  · obtain ⟨i, rfl⟩ : ∃ i, j = i + 10 := ⟨j - 10, by omega⟩
    rw [va_up_ne _ _ (show i + 10 ≠ 9 by omega), va_up_ne _ _ (show i + 10 ≠ 8 by omega), va_up_ne _ _ (show i + 10 ≠ 7 by omega), va_up_ne _ _ (show i + 10 ≠ 6 by omega), va_up_ne _ _ (show i + 10 ≠ 5 by omega), va_up_ne _ _ (show i + 10 ≠ 4 by omega), va_up_ne _ _ (show i + 10 ≠ 3 by omega), va_up_ne _ _ (show i + 10 ≠ 2 by omega), va_up_ne _ _ (show i + 10 ≠ 1 by omega), va_up_ne _ _ (show i + 10 ≠ 0 by omega)]
    rfl
theorem row_1 : rf0 1 = (va_up (va_up (fun _ => none) 0 (some 2)) 1 (some 4)) := funext fun j => by
  rcases (show j = 0 ∨ j = 1 ∨ 2 ≤ j by omega) with rfl | rfl | h
  · rfl
  · rfl
  · obtain ⟨i, rfl⟩ : ∃ i, j = i + 2 := ⟨j - 2, by omega⟩
    rw [va_up_ne _ _ (show i + 2 ≠ 1 by omega), va_up_ne _ _ (show i + 2 ≠ 0 by omega)]
    rfl
theorem row_2 : rf0 2 = (va_up (fun _ => none) 0 (some 3)) := funext fun j => by
  rcases (show j = 0 ∨ 1 ≤ j by omega) with rfl | h
  · rfl
  · obtain ⟨i, rfl⟩ : ∃ i, j = i + 1 := ⟨j - 1, by omega⟩
    rw [va_up_ne _ _ (show i + 1 ≠ 0 by omega)]
    rfl
theorem row_11 : rf0 11 = (va_up (va_up (fun _ => none) 0 (some 12)) 1 (some 14)) := funext fun j => by
  rcases (show j = 0 ∨ j = 1 ∨ 2 ≤ j by omega) with rfl | rfl | h
  · rfl
  · rfl
  · obtain ⟨i, rfl⟩ : ∃ i, j = i + 2 := ⟨j - 2, by omega⟩
    rw [va_up_ne _ _ (show i + 2 ≠ 1 by omega), va_up_ne _ _ (show i + 2 ≠ 0 by omega)]
    rfl
theorem row_12 : rf0 12 = (va_up (fun _ => none) 0 (some 13)) := funext fun j => by
  rcases (show j = 0 ∨ 1 ≤ j by omega) with rfl | h
  · rfl
  · obtain ⟨i, rfl⟩ : ∃ i, j = i + 1 := ⟨j - 1, by omega⟩
    rw [va_up_ne _ _ (show i + 1 ≠ 0 by omega)]
    rfl
theorem row_19 : rf0 19 = (va_up (va_up (va_up (fun _ => none) 1 (some 20)) 2 (some 21)) 0 (some 11)) := funext fun j => by
  rcases (show j = 0 ∨ j = 1 ∨ j = 2 ∨ 3 ≤ j by omega) with rfl | rfl | rfl | h
  · rfl
  · rfl
  · rfl
  · obtain ⟨i, rfl⟩ : ∃ i, j = i + 3 := ⟨j - 3, by omega⟩
    rw [va_up_ne _ _ (show i + 3 ≠ 0 by omega), va_up_ne _ _ (show i + 3 ≠ 2 by omega), va_up_ne _ _ (show i + 3 ≠ 1 by omega)]
    rfl
theorem row_22 : rf0 22 = (va_up (va_up (fun _ => none) 0 (some 23)) 1 (some 24)) := funext fun j => by
  rcases (show j = 0 ∨ j = 1 ∨ 2 ≤ j by omega) with rfl | rfl | h
  · rfl
  · rfl
  · obtain ⟨i, rfl⟩ : ∃ i, j = i + 2 := ⟨j - 2, by omega⟩
    rw [va_up_ne _ _ (show i + 2 ≠ 1 by omega), va_up_ne _ _ (show i + 2 ≠ 0 by omega)]
    rfl
theorem row_25 : rf0 25 = (va_up (va_up (va_up (va_up (fun _ => none) 1 (some 26)) 2 (some 27)) 3 (some 28)) 0 (some 22)) := funext fun j => by
  rcases (show j = 0 ∨ j = 1 ∨ j = 2 ∨ j = 3 ∨ 4 ≤ j by omega) with rfl | rfl | rfl | rfl | h
  · rfl
  · rfl
  · rfl
  · rfl
  · obtain ⟨i, rfl⟩ : ∃ i, j = i + 4 := ⟨j - 4, by omega⟩
    rw [va_up_ne _ _ (show i + 4 ≠ 0 by omega), va_up_ne _ _ (show i + 4 ≠ 3 by omega), va_up_ne _ _ (show i + 4 ≠ 2 by omega), va_up_ne _ _ (show i + 4 ≠ 1 by omega)]
    rfl
theorem row_29 : rf0 29 = (va_up (va_up (fun _ => none) 0 (some 30)) 1 (some 32)) := funext fun j => by
  rcases (show j = 0 ∨ j = 1 ∨ 2 ≤ j by omega) with rfl | rfl | h
  · rfl
  · rfl
  · obtain ⟨i, rfl⟩ : ∃ i, j = i + 2 := ⟨j - 2, by omega⟩
    rw [va_up_ne _ _ (show i + 2 ≠ 1 by omega), va_up_ne _ _ (show i + 2 ≠ 0 by omega)]
    rfl
theorem row_30 : rf0 30 = (va_up (fun _ => none) 0 (some 31)) := funext fun j => by
  rcases (show j = 0 ∨ 1 ≤ j by omega) with rfl | h
  · rfl
  · obtain ⟨i, rfl⟩ : ∃ i, j = i + 1 := ⟨j - 1, by omega⟩
    rw [va_up_ne _ _ (show i + 1 ≠ 0 by omega)]
    rfl
theorem row_36 : rf0 36 = (va_up (va_up (va_up (va_up (va_up (fun _ => none) 2 (some 37)) 3 (some 38)) 4 (some 39)) 0 (some 22)) 1 (some 25)) := funext fun j => by
  rcases (show j = 0 ∨ j = 1 ∨ j = 2 ∨ j = 3 ∨ j = 4 ∨ 5 ≤ j by omega) with rfl | rfl | rfl | rfl | rfl | h
  · rfl
  · rfl
  · rfl
  · rfl
  · rfl
  · obtain ⟨i, rfl⟩ : ∃ i, j = i + 5 := ⟨j - 5, by omega⟩
    rw [va_up_ne _ _ (show i + 5 ≠ 1 by omega), va_up_ne _ _ (show i + 5 ≠ 0 by omega), va_up_ne _ _ (show i + 5 ≠ 4 by omega), va_up_ne _ _ (show i + 5 ≠ 3 by omega), va_up_ne _ _ (show i + 5 ≠ 2 by omega)]
    rfl
theorem row_40 : rf0 40 = (va_up (va_up (va_up (fun _ => none) 1 (some 41)) 2 (some 42)) 0 (some 22)) := funext fun j => by
  rcases (show j = 0 ∨ j = 1 ∨ j = 2 ∨ 3 ≤ j by omega) with rfl | rfl | rfl | h
  · rfl
  · rfl
  · rfl
  · obtain ⟨i, rfl⟩ : ∃ i, j = i + 3 := ⟨j - 3, by omega⟩
    rw [va_up_ne _ _ (show i + 3 ≠ 0 by omega), va_up_ne _ _ (show i + 3 ≠ 2 by omega), va_up_ne _ _ (show i + 3 ≠ 1 by omega)]
    rfl
theorem row_43 : rf0 43 = (va_up (va_up (va_up (va_up (fun _ => none) 1 (some 44)) 2 (some 45)) 3 (some 46)) 0 (some 22)) := funext fun j => by
  rcases (show j = 0 ∨ j = 1 ∨ j = 2 ∨ j = 3 ∨ 4 ≤ j by omega) with rfl | rfl | rfl | rfl | h
  · rfl
  · rfl
  · rfl
  · rfl
  · obtain ⟨i, rfl⟩ : ∃ i, j = i + 4 := ⟨j - 4, by omega⟩
    rw [va_up_ne _ _ (show i + 4 ≠ 0 by omega), va_up_ne _ _ (show i + 4 ≠ 3 by omega), va_up_ne _ _ (show i + 4 ≠ 2 by omega), va_up_ne _ _ (show i + 4 ≠ 1 by omega)]
    rfl
theorem row_48 : rf0 48 = (va_up (va_up (va_up (va_up (va_up (va_up (va_up (va_up (va_up (va_up (va_up (va_up (va_up (va_up (va_up (va_up (va_up (fun _ => none) 0 (some 49)) 1 (some 50)) 2 (some 51)) 3 (some 52)) 4 (some 53)) 7 (some 54)) 8 (some 55)) 9 (some 56)) 10 (some 57)) 13 (some 58)) 14 (some 59)) 18 (some 60)) 19 (some 61)) 24 (some 62)) 25 (some 63)) 26 (some 64)) 27 (some 65)) := funext fun j => by
  rcases (show j = 0 ∨ j = 1 ∨ j = 2 ∨ j = 3 ∨ j = 4 ∨ j = 5 ∨ j = 6 ∨ j = 7 ∨ j = 8 ∨ j = 9 ∨ j = 10 ∨ j = 11 ∨ j = 12 ∨ j = 13 ∨ j = 14 ∨ j = 15 ∨ j = 16 ∨ j = 17 ∨ j = 18 ∨ j = 19 ∨ j = 20 ∨ j = 21 ∨ j = 22 ∨ j = 23 ∨ j = 24 ∨ j = 25 ∨ j = 26 ∨ j = 27 ∨ 28 ≤ j by omega) with rfl | rfl | rfl | rfl | rfl | rfl | rfl | rfl | rfl | rfl | rfl | rfl | rfl | rfl | rfl | rfl | rfl | rfl | rfl | rfl | rfl | rfl | rfl | rfl | rfl | rfl | rfl | rfl | h
  · rfl
  · rfl
  · rfl
  · rfl
  · rfl
  · rfl
  · rfl
  · rfl
  · rfl
  · rfl
  · rfl
  · rfl
  · rfl
  · rfl
  · rfl
  · rfl
  · rfl
  · rfl
  · rfl
  · rfl
  · rfl
  · rfl
  · rfl
  · rfl
  · rfl
  · rfl
  · rfl
  · rfl
  · obtain ⟨i, rfl⟩ : ∃ i, j = i + 28 := ⟨j - 28, by omega⟩
    rw [va_up_ne _ _ (show i + 28 ≠ 27 by omega), va_up_ne _ _ (show i + 28 ≠ 26 by omega), va_up_ne _ _ (show i + 28 ≠ 25 by omega), va_up_ne _ _ (show i + 28 ≠ 24 by omega), va_up_ne _ _ (show i + 28 ≠ 19 by omega), va_up_ne _ _ (show i + 28 ≠ 18 by omega), va_up_ne _ _ (show i + 28 ≠ 14 by omega), va_up_ne _ _ (show i + 28 ≠ 13 by omega), va_up_ne _ _ (show i + 28 ≠ 10 by omega), va_up_ne _ _ (show i + 28 ≠ 9 by omega), va_up_ne _ _ (show i + 28 ≠ 8 by omega), va_up_ne _ _ (show i + 28 ≠ 7 by omega), va_up_ne _ _ (show i + 28 ≠ 4 by omega), va_up_ne _ _ (show i + 28 ≠ 3 by omega), va_up_ne _ _ (show i + 28 ≠ 2 by omega), va_up_ne _ _ (show i + 28 ≠ 1 by omega), va_up_ne _ _ (show i + 28 ≠ 0 by omega)]
    rfl
theorem rowR_4 : ∀ a, 4 < a → a < 11 → rf0 a = fun _ => none := fun a h1 h2 => by
  rcases (show a = 5 ∨ a = 6 ∨ a = 7 ∨ a = 8 ∨ a = 9 ∨ a = 10 by omega) with rfl | rfl | rfl | rfl | rfl | rfl <;> rfl
theorem rowR_14 : ∀ a, 14 < a → a < 19 → rf0 a = fun _ => none := fun a h1 h2 => by
  rcases (show a = 15 ∨ a = 16 ∨ a = 17 ∨ a = 18 by omega) with rfl | rfl | rfl | rfl <;> rfl
theorem rowR_32 : ∀ a, 32 < a → a < 36 → rf0 a = fun _ => none := fun a h1 h2 => by
  rcases (show a = 33 ∨ a = 34 ∨ a = 35 by omega) with rfl | rfl | rfl <;> rfl
theorem ct_i2 {B : Nat → Nat → Option Nat} (hI : ∀ a, 3 ≤ a → I a = fun _ => 0) (hJ : ∀ a, 3 ≤ a → J a = fun _ => 0) (hB : ∀ a, 2 ≤ a → B a = rf0 a) : Ct X (d + 1) 4 M_X7_init 3 [.ref 2, .int 6] (I, J, upR B 2 (fun _ => none)) (RV (fun m => ∃ g, m = (upR I 3 g, J, B) ∧ ∀ i, i < 6 → g i = -1)) := by
  have hF : ∀ (r : Nat → Option Nat) (a : Nat), 3 ≤ a → rf0 a = (fun _ => none) → upR B 2 r a = fun _ => none := fun r a ha h => (upR_n (by omega)).trans ((hB a (by omega)).trans h)
  show Go _ _ _ _ _ _ [_, _] _ _ _
  refine g_aload_n dX7_init_0 rfl ?_
  refine g_oinit dX7_init_1 tb_37 oin ocd (Nat.le_of_ble_eq_true rfl) ?_
  refine g_aload_n dX7_init_4 rfl ?_
  refine g_iload_n dX7_init_5 rfl ?_
  refine g_iconst (v := 0) dX7_init_6 (by decide) ?_
  refine g_mmax dX7_init_7 mm_X7_7 (Nat.le_of_ble_eq_true rfl) ?_
  refine t_newa (t := 0) dX7_init_10 rfl (by decide) tb_48 rfl (by decide) (by decide) (by decide) (by decide) (by decide) rfl (hI _ (by decide)) (hJ _ (by decide)) (hF _ 3 (by decide) rfl) ?_
  refine t_putR dX7_init_12 fl_X7_13 rfl (by decide) rfl (by decide) (by decide) rfl (fun q h => by cases h; rfl) ?_
  refine g_aload_n dX7_init_15 rfl ?_
  refine t_getR dX7_init_16 fl_X7_13 rfl (by decide) rfl (by decide) rfl ?_
  refine g_iconst (v := -1) dX7_init_19 (by decide) ?_
  refine g_callSv dX7_init_20 ln_X7_19 rfl rfl (Nat.le_of_ble_eq_true rfl) (Nat.le_of_ble_eq_true rfl) (ct_fill0 (N := 4) (a := 3) (n := 6) rfl (by decide) (by decide)) rfl (fun m20 h20 => ?_)
  obtain ⟨g, rfl, hg, -⟩ := h20
  refine g_vret dX7_init_23 ?_
  exact ⟨g, by rw [upR_id ((hB 2 (by decide)).trans row_2)], hg⟩
theorem ct_i12 {B : Nat → Nat → Option Nat} (hI : ∀ a, 13 ≤ a → I a = fun _ => 0) (hJ : ∀ a, 13 ≤ a → J a = fun _ => 0) (hB : ∀ a, 12 ≤ a → B a = rf0 a) : Ct X (d + 1) 14 M_X7_init 13 [.ref 12, .int 4] (I, J, upR B 12 (fun _ => none)) (RV (fun m => ∃ g, m = (upR I 13 g, J, B) ∧ ∀ i, i < 4 → g i = -1)) := by
  have hF : ∀ (r : Nat → Option Nat) (a : Nat), 13 ≤ a → rf0 a = (fun _ => none) → upR B 12 r a = fun _ => none := fun r a ha h => (upR_n (by omega)).trans ((hB a (by omega)).trans h)
  show Go _ _ _ _ _ _ [_, _] _ _ _
  refine g_aload_n dX7_init_0 rfl ?_
  refine g_oinit dX7_init_1 tb_37 oin ocd (Nat.le_of_ble_eq_true rfl) ?_
  refine g_aload_n dX7_init_4 rfl ?_
  refine g_iload_n dX7_init_5 rfl ?_
  refine g_iconst (v := 0) dX7_init_6 (by decide) ?_
  refine g_mmax dX7_init_7 mm_X7_7 (Nat.le_of_ble_eq_true rfl) ?_
  refine t_newa (t := 0) dX7_init_10 rfl (by decide) tb_48 rfl (by decide) (by decide) (by decide) (by decide) (by decide) rfl (hI _ (by decide)) (hJ _ (by decide)) (hF _ 13 (by decide) rfl) ?_
  refine t_putR dX7_init_12 fl_X7_13 rfl (by decide) rfl (by decide) (by decide) rfl (fun q h => by cases h; rfl) ?_
  refine g_aload_n dX7_init_15 rfl ?_
  refine t_getR dX7_init_16 fl_X7_13 rfl (by decide) rfl (by decide) rfl ?_
  refine g_iconst (v := -1) dX7_init_19 (by decide) ?_
  refine g_callSv dX7_init_20 ln_X7_19 rfl rfl (Nat.le_of_ble_eq_true rfl) (Nat.le_of_ble_eq_true rfl) (ct_fill0 (N := 14) (a := 13) (n := 4) rfl (by decide) (by decide)) rfl (fun m20 h20 => ?_)
  obtain ⟨g, rfl, hg, -⟩ := h20
  refine g_vret dX7_init_23 ?_
  exact ⟨g, by rw [upR_id ((hB 12 (by decide)).trans row_12)], hg⟩
theorem ct_i30 {B : Nat → Nat → Option Nat} (hI : ∀ a, 31 ≤ a → I a = fun _ => 0) (hJ : ∀ a, 31 ≤ a → J a = fun _ => 0) (hB : ∀ a, 30 ≤ a → B a = rf0 a) : Ct X (d + 1) 32 M_X7_init 31 [.ref 30, .int 3] (I, J, upR B 30 (fun _ => none)) (RV (fun m => ∃ g, m = (upR I 31 g, J, B) ∧ ∀ i, i < 3 → g i = -1)) := by
  have hF : ∀ (r : Nat → Option Nat) (a : Nat), 31 ≤ a → rf0 a = (fun _ => none) → upR B 30 r a = fun _ => none := fun r a ha h => (upR_n (by omega)).trans ((hB a (by omega)).trans h)
  show Go _ _ _ _ _ _ [_, _] _ _ _
  refine g_aload_n dX7_init_0 rfl ?_
  refine g_oinit dX7_init_1 tb_37 oin ocd (Nat.le_of_ble_eq_true rfl) ?_
  refine g_aload_n dX7_init_4 rfl ?_
  refine g_iload_n dX7_init_5 rfl ?_
  refine g_iconst (v := 0) dX7_init_6 (by decide) ?_
  refine g_mmax dX7_init_7 mm_X7_7 (Nat.le_of_ble_eq_true rfl) ?_
  refine t_newa (t := 0) dX7_init_10 rfl (by decide) tb_48 rfl (by decide) (by decide) (by decide) (by decide) (by decide) rfl (hI _ (by decide)) (hJ _ (by decide)) (hF _ 31 (by decide) rfl) ?_
  refine t_putR dX7_init_12 fl_X7_13 rfl (by decide) rfl (by decide) (by decide) rfl (fun q h => by cases h; rfl) ?_
  refine g_aload_n dX7_init_15 rfl ?_
  refine t_getR dX7_init_16 fl_X7_13 rfl (by decide) rfl (by decide) rfl ?_
  refine g_iconst (v := -1) dX7_init_19 (by decide) ?_
  refine g_callSv dX7_init_20 ln_X7_19 rfl rfl (Nat.le_of_ble_eq_true rfl) (Nat.le_of_ble_eq_true rfl) (ct_fill0 (N := 32) (a := 31) (n := 3) rfl (by decide) (by decide)) rfl (fun m20 h20 => ?_)
  obtain ⟨g, rfl, hg, -⟩ := h20
  refine g_vret dX7_init_23 ?_
  exact ⟨g, by rw [upR_id ((hB 30 (by decide)).trans row_30)], hg⟩
theorem ct_i1 {B : Nat → Nat → Option Nat} (hI : ∀ a, 2 ≤ a → I a = fun _ => 0) (hJ : ∀ a, 2 ≤ a → J a = fun _ => 0) (hB : ∀ a, 1 ≤ a → B a = rf0 a) : Ct X (d + 2) 11 M_X5_init 2 [.ref 1] (I, J, upR B 1 (fun _ => none)) (RV (fun m => ∃ g, m = (upR I 3 g, J, B) ∧ ∀ i, i < 6 → g i = -1)) := by
  have hF : ∀ (r : Nat → Option Nat) (a : Nat), 2 ≤ a → rf0 a = (fun _ => none) → upR B 1 r a = fun _ => none := fun r a ha h => (upR_n (by omega)).trans ((hB a (by omega)).trans h)
  show Go _ _ _ _ _ _ [_] _ _ _
  refine g_aload_n dX5_init_0 rfl ?_
  refine g_oinit dX5_init_1 tb_31 oin ocd (Nat.le_of_ble_eq_true rfl) ?_
  refine g_aload_n dX5_init_4 rfl ?_
  refine t_new dX5_init_5 nl_X5_7 rfl (by decide) (by decide) rfl (hI _ (by decide)) (hJ _ (by decide)) ?_
  refine g_dup dX5_init_8 rfl ?_
  refine g_bipush (v := 6) dX5_init_9 (by decide) ?_
  refine g_callIv dX5_init_11 ln_X5_11 rfl rfl (Nat.le_of_ble_eq_true rfl) (Nat.le_of_ble_eq_true rfl) (by decide) (by decide) rfl (ct_i2 (fun a ha => hI a (by omega)) (fun a ha => hJ a (by omega)) (fun a ha => (upR_n (by omega)).trans (hB a (by omega)))) rfl (fun m11 h11 => ?_)
  obtain ⟨g, rfl, hg⟩ := h11
  have hI : ∀ a, 4 ≤ a → upR I 3 g a = fun _ => 0 := fun a ha => (upR_n (by omega)).trans (hI a (by omega))
  refine t_putR dX5_init_14 fl_X5_14 rfl (by decide) rfl (by decide) (by decide) rfl (fun q h => by cases h; rfl) ?_
  refine g_aload_n dX5_init_17 rfl ?_
  refine g_bipush (v := 6) dX5_init_18 (by decide) ?_
  refine g_bipush (v := 40) dX5_init_20 (by decide) ?_
  refine t_mnewI (n := 6) (k := 40) (N2 := 11) dX5_init_22 tb_49 tb_48 rfl (by decide) (by decide) (by decide) (by decide) (by decide) (by decide) rfl (by decide) (by decide) (by decide) rfl (fun a ha => hI a (Nat.le_trans (by decide) ha)) ((upR_n (by decide)).trans (hB 4 (by decide))) (fun a h1 h2 => hF _ a (by omega) (rowR_4 a h1 h2)) ?_
  refine t_putR dX5_init_26 fl_X5_20 rfl (by decide) rfl (by decide) (by decide) rfl (fun q h => by cases h; rfl) ?_
  refine g_vret dX5_init_29 ?_
  exact ⟨g, by rw [upR_id ((hB 1 (by decide)).trans row_1)], hg⟩
theorem ct_i11 {B : Nat → Nat → Option Nat} (hI : ∀ a, 12 ≤ a → I a = fun _ => 0) (hJ : ∀ a, 12 ≤ a → J a = fun _ => 0) (hB : ∀ a, 11 ≤ a → B a = rf0 a) : Ct X (d + 2) 19 M_X9_init 12 [.ref 11] (I, J, upR B 11 (fun _ => none)) (RV (fun m => ∃ g, m = (upR I 13 g, J, B) ∧ ∀ i, i < 4 → g i = -1)) := by
  have hF : ∀ (r : Nat → Option Nat) (a : Nat), 12 ≤ a → rf0 a = (fun _ => none) → upR B 11 r a = fun _ => none := fun r a ha h => (upR_n (by omega)).trans ((hB a (by omega)).trans h)
  show Go _ _ _ _ _ _ [_] _ _ _
  refine g_aload_n dX9_init_0 rfl ?_
  refine g_oinit dX9_init_1 tb_64 oin ocd (Nat.le_of_ble_eq_true rfl) ?_
  refine g_aload_n dX9_init_4 rfl ?_
  refine t_new dX9_init_5 nl_X9_7 rfl (by decide) (by decide) rfl (hI _ (by decide)) (hJ _ (by decide)) ?_
  refine g_dup dX9_init_8 rfl ?_
  refine g_iconst (v := 4) dX9_init_9 (by decide) ?_
  refine g_callIv dX9_init_10 ln_X9_11 rfl rfl (Nat.le_of_ble_eq_true rfl) (Nat.le_of_ble_eq_true rfl) (by decide) (by decide) rfl (ct_i12 (fun a ha => hI a (by omega)) (fun a ha => hJ a (by omega)) (fun a ha => (upR_n (by omega)).trans (hB a (by omega)))) rfl (fun m10 h10 => ?_)
  obtain ⟨g, rfl, hg⟩ := h10
  have hI : ∀ a, 14 ≤ a → upR I 13 g a = fun _ => 0 := fun a ha => (upR_n (by omega)).trans (hI a (by omega))
  refine t_putR dX9_init_13 fl_X9_14 rfl (by decide) rfl (by decide) (by decide) rfl (fun q h => by cases h; rfl) ?_
  refine g_aload_n dX9_init_16 rfl ?_
  refine g_iconst (v := 4) dX9_init_17 (by decide) ?_
  refine g_bipush (v := 80) dX9_init_18 (by decide) ?_
  refine t_mnewB (n := 4) (k := 80) (N2 := 19) dX9_init_20 tb_67 tb_78 rfl (by decide) (by decide) (by decide) (by decide) (by decide) (by decide) rfl (by decide) (by decide) (by decide) rfl (fun a ha => hI a (Nat.le_trans (by decide) ha)) ((upR_n (by decide)).trans (hB 14 (by decide))) (fun a h1 h2 => hF _ a (by omega) (rowR_14 a h1 h2)) ?_
  refine t_putR dX9_init_24 fl_X9_20 rfl (by decide) rfl (by decide) (by decide) rfl (fun q h => by cases h; rfl) ?_
  refine g_vret dX9_init_27 ?_
  exact ⟨g, by rw [upR_id ((hB 11 (by decide)).trans row_11)], hg⟩
theorem ct_i29 {B : Nat → Nat → Option Nat} (hI : ∀ a, 30 ≤ a → I a = fun _ => 0) (hJ : ∀ a, 30 ≤ a → J a = fun _ => 0) (hB : ∀ a, 29 ≤ a → B a = rf0 a) : Ct X (d + 2) 36 M_X6_init 30 [.ref 29] (I, J, upR B 29 (fun _ => none)) (RV (fun m => ∃ g, m = (upR I 31 g, J, B) ∧ ∀ i, i < 3 → g i = -1)) := by
  have hF : ∀ (r : Nat → Option Nat) (a : Nat), 30 ≤ a → rf0 a = (fun _ => none) → upR B 29 r a = fun _ => none := fun r a ha h => (upR_n (by omega)).trans ((hB a (by omega)).trans h)
  show Go _ _ _ _ _ _ [_] _ _ _
  refine g_aload_n dX6_init_0 rfl ?_
  refine g_oinit dX6_init_1 tb_181 oin ocd (Nat.le_of_ble_eq_true rfl) ?_
  refine g_aload_n dX6_init_4 rfl ?_
  refine t_new dX6_init_5 nl_X6_9 rfl (by decide) (by decide) rfl (hI _ (by decide)) (hJ _ (by decide)) ?_
  refine g_dup dX6_init_8 rfl ?_
  refine g_iconst (v := 3) dX6_init_9 (by decide) ?_
  refine g_callIv dX6_init_10 ln_X6_13 rfl rfl (Nat.le_of_ble_eq_true rfl) (Nat.le_of_ble_eq_true rfl) (by decide) (by decide) rfl (ct_i30 (fun a ha => hI a (by omega)) (fun a ha => hJ a (by omega)) (fun a ha => (upR_n (by omega)).trans (hB a (by omega)))) rfl (fun m10 h10 => ?_)
  obtain ⟨g, rfl, hg⟩ := h10
  have hI : ∀ a, 32 ≤ a → upR I 31 g a = fun _ => 0 := fun a ha => (upR_n (by omega)).trans (hI a (by omega))
  refine t_putR dX6_init_13 fl_X6_16 rfl (by decide) rfl (by decide) (by decide) rfl (fun q h => by cases h; rfl) ?_
  refine g_aload_n dX6_init_16 rfl ?_
  refine g_iconst (v := 3) dX6_init_17 (by decide) ?_
  refine g_bipush (v := 40) dX6_init_18 (by decide) ?_
  refine t_mnewI (n := 3) (k := 40) (N2 := 36) dX6_init_20 tb_184 tb_48 rfl (by decide) (by decide) (by decide) (by decide) (by decide) (by decide) rfl (by decide) (by decide) (by decide) rfl (fun a ha => hI a (Nat.le_trans (by decide) ha)) ((upR_n (by decide)).trans (hB 32 (by decide))) (fun a h1 h2 => hF _ a (by omega) (rowR_32 a h1 h2)) ?_
  refine t_putR dX6_init_24 fl_X6_22 rfl (by decide) rfl (by decide) (by decide) rfl (fun q h => by cases h; rfl) ?_
  refine g_vret dX6_init_27 ?_
  exact ⟨g, by rw [upR_id ((hB 29 (by decide)).trans row_29)], hg⟩
theorem ct_i19 {B : Nat → Nat → Option Nat} (hI : ∀ a, 20 ≤ a → I a = fun _ => 0) (hJ : ∀ a, 20 ≤ a → J a = fun _ => 0) (hB : ∀ a, 19 ≤ a → B a = rf0 a) : Ct X (d + 1) 22 M_X4_init 20 [.ref 19, .ref 11] (I, J, upR B 19 (fun _ => none)) (RV (fun m => m = (I, J, B))) := by
  have hF : ∀ (r : Nat → Option Nat) (a : Nat), 20 ≤ a → rf0 a = (fun _ => none) → upR B 19 r a = fun _ => none := fun r a ha h => (upR_n (by omega)).trans ((hB a (by omega)).trans h)
  show Go _ _ _ _ _ _ [_, _] _ _ _
  refine g_aload_n dX4_init_0 rfl ?_
  refine g_oinit dX4_init_1 tb_84 oin ocd (Nat.le_of_ble_eq_true rfl) ?_
  refine g_aload_n dX4_init_4 rfl ?_
  refine g_bipush (v := 14) dX4_init_5 (by decide) ?_
  refine t_newa (t := 0) dX4_init_7 rfl (by decide) tb_48 rfl (by decide) (by decide) (by decide) (by decide) (by decide) rfl (hI _ (by decide)) (hJ _ (by decide)) (hF _ 20 (by decide) rfl) ?_
  refine t_putR dX4_init_9 fl_X4_9 rfl (by decide) rfl (by decide) (by decide) rfl (fun q h => by cases h; rfl) ?_
  refine g_aload_n dX4_init_12 rfl ?_
  refine g_bipush (v := 56) dX4_init_13 (by decide) ?_
  refine t_newa (t := 0) dX4_init_15 rfl (by decide) tb_48 rfl (by decide) (by decide) (by decide) (by decide) (by decide) rfl (hI _ (by decide)) (hJ _ (by decide)) (hF _ 21 (by decide) rfl) ?_
  refine t_putR dX4_init_17 fl_X4_15 rfl (by decide) rfl (by decide) (by decide) rfl (fun q h => by cases h; rfl) ?_
  refine g_aload_n dX4_init_20 rfl ?_
  refine g_aload_n dX4_init_21 rfl ?_
  refine t_putR dX4_init_22 fl_X4_18 rfl (by decide) rfl (by decide) (by decide) rfl (fun q h => by cases h; rfl) ?_
  refine g_vret dX4_init_25 ?_
  rw [upR_id ((hB 19 (by decide)).trans row_19)]
theorem ct_i22 {B : Nat → Nat → Option Nat} (hI : ∀ a, 23 ≤ a → I a = fun _ => 0) (hJ : ∀ a, 23 ≤ a → J a = fun _ => 0) (hB : ∀ a, 22 ≤ a → B a = rf0 a) : Ct X (d + 1) 25 M_X3_init 23 [.ref 22] (I, J, upR B 22 (fun _ => none)) (RV (fun m => m = (I, J, B))) := by
  have hF : ∀ (r : Nat → Option Nat) (a : Nat), 23 ≤ a → rf0 a = (fun _ => none) → upR B 22 r a = fun _ => none := fun r a ha h => (upR_n (by omega)).trans ((hB a (by omega)).trans h)
  show Go _ _ _ _ _ _ [_] _ _ _
  refine g_aload_n dX3_init_0 rfl ?_
  refine g_oinit dX3_init_1 tb_119 oin ocd (Nat.le_of_ble_eq_true rfl) ?_
  refine g_aload_n dX3_init_4 rfl ?_
  refine g_bipush (v := 14) dX3_init_5 (by decide) ?_
  refine t_newa (t := 0) dX3_init_7 rfl (by decide) tb_48 rfl (by decide) (by decide) (by decide) (by decide) (by decide) rfl (hI _ (by decide)) (hJ _ (by decide)) (hF _ 23 (by decide) rfl) ?_
  refine t_putR dX3_init_9 fl_X3_9 rfl (by decide) rfl (by decide) (by decide) rfl (fun q h => by cases h; rfl) ?_
  refine g_aload_n dX3_init_12 rfl ?_
  refine g_bipush (v := 56) dX3_init_13 (by decide) ?_
  refine t_newa (t := 0) dX3_init_15 rfl (by decide) tb_48 rfl (by decide) (by decide) (by decide) (by decide) (by decide) rfl (hI _ (by decide)) (hJ _ (by decide)) (hF _ 24 (by decide) rfl) ?_
  refine t_putR dX3_init_17 fl_X3_15 rfl (by decide) rfl (by decide) (by decide) rfl (fun q h => by cases h; rfl) ?_
  refine g_vret dX3_init_20 ?_
  rw [upR_id ((hB 22 (by decide)).trans row_22)]
theorem ct_i25 {B : Nat → Nat → Option Nat} (hI : ∀ a, 26 ≤ a → I a = fun _ => 0) (hJ : ∀ a, 26 ≤ a → J a = fun _ => 0) (hB : ∀ a, 25 ≤ a → B a = rf0 a) : Ct X (d + 1) 29 M_X1_init 26 [.ref 25, .ref 22] (I, J, upR B 25 (fun _ => none)) (RV (fun m => m = (I, J, B))) := by
  have hF : ∀ (r : Nat → Option Nat) (a : Nat), 26 ≤ a → rf0 a = (fun _ => none) → upR B 25 r a = fun _ => none := fun r a ha h => (upR_n (by omega)).trans ((hB a (by omega)).trans h)
  show Go _ _ _ _ _ _ [_, _] _ _ _
  refine g_aload_n dX1_init_0 rfl ?_
  refine g_oinit dX1_init_1 tb_145 oin ocd (Nat.le_of_ble_eq_true rfl) ?_
  refine g_aload_n dX1_init_4 rfl ?_
  refine g_bipush (v := 14) dX1_init_5 (by decide) ?_
  refine t_newa (t := 0) dX1_init_7 rfl (by decide) tb_48 rfl (by decide) (by decide) (by decide) (by decide) (by decide) rfl (hI _ (by decide)) (hJ _ (by decide)) (hF _ 26 (by decide) rfl) ?_
  refine t_putR dX1_init_9 fl_X1_9 rfl (by decide) rfl (by decide) (by decide) rfl (fun q h => by cases h; rfl) ?_
  refine g_aload_n dX1_init_12 rfl ?_
  refine g_bipush (v := 40) dX1_init_13 (by decide) ?_
  refine t_newa (t := 0) dX1_init_15 rfl (by decide) tb_48 rfl (by decide) (by decide) (by decide) (by decide) (by decide) rfl (hI _ (by decide)) (hJ _ (by decide)) (hF _ 27 (by decide) rfl) ?_
  refine t_putR dX1_init_17 fl_X1_15 rfl (by decide) rfl (by decide) (by decide) rfl (fun q h => by cases h; rfl) ?_
  refine g_aload_n dX1_init_20 rfl ?_
  refine g_iconst (v := 4) dX1_init_21 (by decide) ?_
  refine t_newa (t := 0) dX1_init_22 rfl (by decide) tb_48 rfl (by decide) (by decide) (by decide) (by decide) (by decide) rfl (hI _ (by decide)) (hJ _ (by decide)) (hF _ 28 (by decide) rfl) ?_
  refine t_putR dX1_init_24 fl_X1_18 rfl (by decide) rfl (by decide) (by decide) rfl (fun q h => by cases h; rfl) ?_
  refine g_aload_n dX1_init_27 rfl ?_
  refine g_aload_n dX1_init_28 rfl ?_
  refine t_putR dX1_init_29 fl_X1_21 rfl (by decide) rfl (by decide) (by decide) rfl (fun q h => by cases h; rfl) ?_
  refine g_vret dX1_init_32 ?_
  rw [upR_id ((hB 25 (by decide)).trans row_25)]
theorem ct_i36 {B : Nat → Nat → Option Nat} (hI : ∀ a, 37 ≤ a → I a = fun _ => 0) (hJ : ∀ a, 37 ≤ a → J a = fun _ => 0) (hB : ∀ a, 36 ≤ a → B a = rf0 a) : Ct X (d + 1) 40 M_X0_init 37 [.ref 36, .ref 22, .ref 25] (I, J, upR B 36 (fun _ => none)) (RV (fun m => m = (I, J, B))) := by
  have hF : ∀ (r : Nat → Option Nat) (a : Nat), 37 ≤ a → rf0 a = (fun _ => none) → upR B 36 r a = fun _ => none := fun r a ha h => (upR_n (by omega)).trans ((hB a (by omega)).trans h)
  show Go _ _ _ _ _ _ [_, _, _] _ _ _
  refine g_aload_n dX0_init_0 rfl ?_
  refine g_oinit dX0_init_1 tb_198 oin ocd (Nat.le_of_ble_eq_true rfl) ?_
  refine g_aload_n dX0_init_4 rfl ?_
  refine g_iconst (v := 4) dX0_init_5 (by decide) ?_
  refine t_newa (t := 0) dX0_init_6 rfl (by decide) tb_48 rfl (by decide) (by decide) (by decide) (by decide) (by decide) rfl (hI _ (by decide)) (hJ _ (by decide)) (hF _ 37 (by decide) rfl) ?_
  refine t_putR dX0_init_8 fl_X0_9 rfl (by decide) rfl (by decide) (by decide) rfl (fun q h => by cases h; rfl) ?_
  refine g_aload_n dX0_init_11 rfl ?_
  refine g_bipush (v := 20) dX0_init_12 (by decide) ?_
  refine t_newa (t := 0) dX0_init_14 rfl (by decide) tb_48 rfl (by decide) (by decide) (by decide) (by decide) (by decide) rfl (hI _ (by decide)) (hJ _ (by decide)) (hF _ 38 (by decide) rfl) ?_
  refine t_putR dX0_init_16 fl_X0_15 rfl (by decide) rfl (by decide) (by decide) rfl (fun q h => by cases h; rfl) ?_
  refine g_aload_n dX0_init_19 rfl ?_
  refine g_iconst (v := 4) dX0_init_20 (by decide) ?_
  refine t_newa (t := 0) dX0_init_21 rfl (by decide) tb_48 rfl (by decide) (by decide) (by decide) (by decide) (by decide) rfl (hI _ (by decide)) (hJ _ (by decide)) (hF _ 39 (by decide) rfl) ?_
  refine t_putR dX0_init_23 fl_X0_18 rfl (by decide) rfl (by decide) (by decide) rfl (fun q h => by cases h; rfl) ?_
  refine g_aload_n dX0_init_26 rfl ?_
  refine g_aload_n dX0_init_27 rfl ?_
  refine t_putR dX0_init_28 fl_X0_21 rfl (by decide) rfl (by decide) (by decide) rfl (fun q h => by cases h; rfl) ?_
  refine g_aload_n dX0_init_31 rfl ?_
  refine g_aload_n dX0_init_32 rfl ?_
  refine t_putR dX0_init_33 fl_X0_25 rfl (by decide) rfl (by decide) (by decide) rfl (fun q h => by cases h; rfl) ?_
  refine g_vret dX0_init_36 ?_
  rw [upR_id ((hB 36 (by decide)).trans row_36)]
theorem ct_i40 {B : Nat → Nat → Option Nat} (hI : ∀ a, 41 ≤ a → I a = fun _ => 0) (hJ : ∀ a, 41 ≤ a → J a = fun _ => 0) (hB : ∀ a, 40 ≤ a → B a = rf0 a) : Ct X (d + 1) 43 M_X8_init 41 [.ref 40, .ref 22] (I, J, upR B 40 (fun _ => none)) (RV (fun m => m = (I, J, B))) := by
  have hF : ∀ (r : Nat → Option Nat) (a : Nat), 41 ≤ a → rf0 a = (fun _ => none) → upR B 40 r a = fun _ => none := fun r a ha h => (upR_n (by omega)).trans ((hB a (by omega)).trans h)
  show Go _ _ _ _ _ _ [_, _] _ _ _
  refine g_aload_n dX8_init_0 rfl ?_
  refine g_oinit dX8_init_1 tb_247 oin ocd (Nat.le_of_ble_eq_true rfl) ?_
  refine g_aload_n dX8_init_4 rfl ?_
  refine g_iconst (v := 4) dX8_init_5 (by decide) ?_
  refine t_newa (t := 0) dX8_init_6 rfl (by decide) tb_48 rfl (by decide) (by decide) (by decide) (by decide) (by decide) rfl (hI _ (by decide)) (hJ _ (by decide)) (hF _ 41 (by decide) rfl) ?_
  refine t_putR dX8_init_8 fl_X8_9 rfl (by decide) rfl (by decide) (by decide) rfl (fun q h => by cases h; rfl) ?_
  refine g_aload_n dX8_init_11 rfl ?_
  refine g_bipush (v := 8) dX8_init_12 (by decide) ?_
  refine t_newa (t := 0) dX8_init_14 rfl (by decide) tb_48 rfl (by decide) (by decide) (by decide) (by decide) (by decide) rfl (hI _ (by decide)) (hJ _ (by decide)) (hF _ 42 (by decide) rfl) ?_
  refine t_putR dX8_init_16 fl_X8_15 rfl (by decide) rfl (by decide) (by decide) rfl (fun q h => by cases h; rfl) ?_
  refine g_aload_n dX8_init_19 rfl ?_
  refine g_aload_n dX8_init_20 rfl ?_
  refine t_putR dX8_init_21 fl_X8_18 rfl (by decide) rfl (by decide) (by decide) rfl (fun q h => by cases h; rfl) ?_
  refine g_vret dX8_init_24 ?_
  rw [upR_id ((hB 40 (by decide)).trans row_40)]
theorem ct_i43 {B : Nat → Nat → Option Nat} (hI : ∀ a, 44 ≤ a → I a = fun _ => 0) (hJ : ∀ a, 44 ≤ a → J a = fun _ => 0) (hB : ∀ a, 43 ≤ a → B a = rf0 a) : Ct X (d + 1) 47 M_X2_init 44 [.ref 43, .ref 22] (I, J, upR B 43 (fun _ => none)) (RV (fun m => m = (I, J, B))) := by
  have hF : ∀ (r : Nat → Option Nat) (a : Nat), 44 ≤ a → rf0 a = (fun _ => none) → upR B 43 r a = fun _ => none := fun r a ha h => (upR_n (by omega)).trans ((hB a (by omega)).trans h)
  show Go _ _ _ _ _ _ [_, _] _ _ _
  refine g_aload_n dX2_init_0 rfl ?_
  refine g_oinit dX2_init_1 tb_263 oin ocd (Nat.le_of_ble_eq_true rfl) ?_
  refine g_aload_n dX2_init_4 rfl ?_
  refine g_iconst (v := 4) dX2_init_5 (by decide) ?_
  refine t_newa (t := 0) dX2_init_6 rfl (by decide) tb_48 rfl (by decide) (by decide) (by decide) (by decide) (by decide) rfl (hI _ (by decide)) (hJ _ (by decide)) (hF _ 44 (by decide) rfl) ?_
  refine t_putR dX2_init_8 fl_X2_9 rfl (by decide) rfl (by decide) (by decide) rfl (fun q h => by cases h; rfl) ?_
  refine g_aload_n dX2_init_11 rfl ?_
  refine g_iconst (v := 4) dX2_init_12 (by decide) ?_
  refine t_newa (t := 0) dX2_init_13 rfl (by decide) tb_48 rfl (by decide) (by decide) (by decide) (by decide) (by decide) rfl (hI _ (by decide)) (hJ _ (by decide)) (hF _ 45 (by decide) rfl) ?_
  refine t_putR dX2_init_15 fl_X2_15 rfl (by decide) rfl (by decide) (by decide) rfl (fun q h => by cases h; rfl) ?_
  refine g_aload_n dX2_init_18 rfl ?_
  refine g_iconst (v := 4) dX2_init_19 (by decide) ?_
  refine t_newa (t := 0) dX2_init_20 rfl (by decide) tb_48 rfl (by decide) (by decide) (by decide) (by decide) (by decide) rfl (hI _ (by decide)) (hJ _ (by decide)) (hF _ 46 (by decide) rfl) ?_
  refine t_putR dX2_init_22 fl_X2_18 rfl (by decide) rfl (by decide) (by decide) rfl (fun q h => by cases h; rfl) ?_
  refine g_aload_n dX2_init_25 rfl ?_
  refine g_aload_n dX2_init_26 rfl ?_
  refine t_putR dX2_init_27 fl_X2_21 rfl (by decide) rfl (by decide) (by decide) rfl (fun q h => by cases h; rfl) ?_
  refine g_vret dX2_init_30 ?_
  rw [upR_id ((hB 43 (by decide)).trans row_43)]
theorem ct_i0 {B : Nat → Nat → Option Nat} (hI : ∀ a, 1 ≤ a → I a = fun _ => 0) (hJ : ∀ a, 1 ≤ a → J a = fun _ => 0) (hB : ∀ a, 0 ≤ a → B a = rf0 a) : Ct X (d + 3) 48 M_X10_init 1 [.ref 0] (I, J, upR B 0 (fun _ => none)) (RV (fun m => ∃ g1 g2 g3, m = (upR (upR (upR I 3 g1) 13 g2) 31 g3, upR J 0 (vp_updL (J 0) 13 1), B) ∧ (∀ i, i < 6 → g1 i = -1) ∧ (∀ i, i < 4 → g2 i = -1) ∧ ∀ i, i < 3 → g3 i = -1)) := by
  have hF : ∀ (r : Nat → Option Nat) (a : Nat), 1 ≤ a → rf0 a = (fun _ => none) → upR B 0 r a = fun _ => none := fun r a ha h => (upR_n (by omega)).trans ((hB a (by omega)).trans h)
  show Go _ _ _ _ _ _ [_] _ _ _
  refine g_aload_n dX10_init_0 rfl ?_
  refine g_oinit dX10_init_1 tb_23 oin ocd (Nat.le_of_ble_eq_true rfl) ?_
  refine g_aload_n dX10_init_4 rfl ?_
  refine t_new dX10_init_5 nl_X10_7 rfl (by decide) (by decide) rfl (hI _ (by decide)) (hJ _ (by decide)) ?_
  refine g_dup dX10_init_8 rfl ?_
  refine g_callINv dX10_init_9 ln_X10_9 rfl rfl (Nat.le_of_ble_eq_true rfl) (Nat.le_of_ble_eq_true rfl) (by decide) (by decide) rfl (ct_i1 (fun a ha => hI a (by omega)) (fun a ha => hJ a (by omega)) (fun a ha => (upR_n (by omega)).trans (hB a (by omega)))) rfl (fun m9 h9 => ?_)
  obtain ⟨g1, rfl, hg1⟩ := h9
  have hI : ∀ a, 11 ≤ a → upR I 3 g1 a = fun _ => 0 := fun a ha => (upR_n (by omega)).trans (hI a (by omega))
  refine t_putR dX10_init_12 fl_X10_10 rfl (by decide) rfl (by decide) (by decide) rfl (fun q h => by cases h; rfl) ?_
  refine g_aload_n dX10_init_15 rfl ?_
  refine t_new dX10_init_16 nl_X10_16 rfl (by decide) (by decide) rfl (hI _ (by decide)) (hJ _ (by decide)) ?_
  refine g_dup dX10_init_19 rfl ?_
  refine g_callINv dX10_init_20 ln_X10_18 rfl rfl (Nat.le_of_ble_eq_true rfl) (Nat.le_of_ble_eq_true rfl) (by decide) (by decide) rfl (ct_i11 (fun a ha => hI a (by omega)) (fun a ha => hJ a (by omega)) (fun a ha => (upR_n (by omega)).trans (hB a (by omega)))) rfl (fun m20 h20 => ?_)
  obtain ⟨g2, rfl, hg2⟩ := h20
  have hI : ∀ a, 19 ≤ a → upR (upR I 3 g1) 13 g2 a = fun _ => 0 := fun a ha => (upR_n (by omega)).trans (hI a (by omega))
  refine t_putR dX10_init_23 fl_X10_19 rfl (by decide) rfl (by decide) (by decide) rfl (fun q h => by cases h; rfl) ?_
  refine g_aload_n dX10_init_26 rfl ?_
  refine t_new dX10_init_27 nl_X10_23 rfl (by decide) (by decide) rfl (hI _ (by decide)) (hJ _ (by decide)) ?_
  refine g_dup dX10_init_30 rfl ?_
  refine g_aload_n dX10_init_31 rfl ?_
  refine t_getR dX10_init_32 fl_X10_19 rfl (by decide) rfl (by decide) rfl ?_
  refine g_callIv dX10_init_35 ln_X10_25 rfl rfl (Nat.le_of_ble_eq_true rfl) (Nat.le_of_ble_eq_true rfl) (by decide) (by decide) rfl (ct_i19 (fun a ha => hI a (by omega)) (fun a ha => hJ a (by omega)) (fun a ha => (upR_n (by omega)).trans (hB a (by omega)))) rfl (fun m35 h35 => ?_)
  subst h35
  refine t_putR dX10_init_38 fl_X10_28 rfl (by decide) rfl (by decide) (by decide) rfl (fun q h => by cases h; rfl) ?_
  refine g_aload_n dX10_init_41 rfl ?_
  refine t_new dX10_init_42 nl_X10_32 rfl (by decide) (by decide) rfl (hI _ (by decide)) (hJ _ (by decide)) ?_
  refine g_dup dX10_init_45 rfl ?_
  refine g_callINv dX10_init_46 ln_X10_34 rfl rfl (Nat.le_of_ble_eq_true rfl) (Nat.le_of_ble_eq_true rfl) (by decide) (by decide) rfl (ct_i22 (fun a ha => hI a (by omega)) (fun a ha => hJ a (by omega)) (fun a ha => (upR_n (by omega)).trans (hB a (by omega)))) rfl (fun m46 h46 => ?_)
  subst h46
  refine t_putR dX10_init_49 fl_X10_35 rfl (by decide) rfl (by decide) (by decide) rfl (fun q h => by cases h; rfl) ?_
  refine g_aload_n dX10_init_52 rfl ?_
  refine t_new dX10_init_53 nl_X10_39 rfl (by decide) (by decide) rfl (hI _ (by decide)) (hJ _ (by decide)) ?_
  refine g_dup dX10_init_56 rfl ?_
  refine g_aload_n dX10_init_57 rfl ?_
  refine t_getR dX10_init_58 fl_X10_35 rfl (by decide) rfl (by decide) rfl ?_
  refine g_callIv dX10_init_61 ln_X10_41 rfl rfl (Nat.le_of_ble_eq_true rfl) (Nat.le_of_ble_eq_true rfl) (by decide) (by decide) rfl (ct_i25 (fun a ha => hI a (by omega)) (fun a ha => hJ a (by omega)) (fun a ha => (upR_n (by omega)).trans (hB a (by omega)))) rfl (fun m61 h61 => ?_)
  subst h61
  refine t_putR dX10_init_64 fl_X10_44 rfl (by decide) rfl (by decide) (by decide) rfl (fun q h => by cases h; rfl) ?_
  refine g_aload_n dX10_init_67 rfl ?_
  refine t_new dX10_init_68 nl_X10_48 rfl (by decide) (by decide) rfl (hI _ (by decide)) (hJ _ (by decide)) ?_
  refine g_dup dX10_init_71 rfl ?_
  refine g_callINv dX10_init_72 ln_X10_50 rfl rfl (Nat.le_of_ble_eq_true rfl) (Nat.le_of_ble_eq_true rfl) (by decide) (by decide) rfl (ct_i29 (fun a ha => hI a (by omega)) (fun a ha => hJ a (by omega)) (fun a ha => (upR_n (by omega)).trans (hB a (by omega)))) rfl (fun m72 h72 => ?_)
  obtain ⟨g3, rfl, hg3⟩ := h72
  have hI : ∀ a, 36 ≤ a → upR (upR (upR I 3 g1) 13 g2) 31 g3 a = fun _ => 0 := fun a ha => (upR_n (by omega)).trans (hI a (by omega))
  refine t_putR dX10_init_75 fl_X10_51 rfl (by decide) rfl (by decide) (by decide) rfl (fun q h => by cases h; rfl) ?_
  refine g_aload_n dX10_init_78 rfl ?_
  refine t_new dX10_init_79 nl_X10_55 rfl (by decide) (by decide) rfl (hI _ (by decide)) (hJ _ (by decide)) ?_
  refine g_dup dX10_init_82 rfl ?_
  refine g_aload_n dX10_init_83 rfl ?_
  refine t_getR dX10_init_84 fl_X10_35 rfl (by decide) rfl (by decide) rfl ?_
  refine g_aload_n dX10_init_87 rfl ?_
  refine t_getR dX10_init_88 fl_X10_44 rfl (by decide) rfl (by decide) rfl ?_
  refine g_callIv dX10_init_91 ln_X10_57 rfl rfl (Nat.le_of_ble_eq_true rfl) (Nat.le_of_ble_eq_true rfl) (by decide) (by decide) rfl (ct_i36 (fun a ha => hI a (by omega)) (fun a ha => hJ a (by omega)) (fun a ha => (upR_n (by omega)).trans (hB a (by omega)))) rfl (fun m91 h91 => ?_)
  subst h91
  refine t_putR dX10_init_94 fl_X10_60 rfl (by decide) rfl (by decide) (by decide) rfl (fun q h => by cases h; rfl) ?_
  refine g_aload_n dX10_init_97 rfl ?_
  refine t_new dX10_init_98 nl_X10_64 rfl (by decide) (by decide) rfl (hI _ (by decide)) (hJ _ (by decide)) ?_
  refine g_dup dX10_init_101 rfl ?_
  refine g_aload_n dX10_init_102 rfl ?_
  refine t_getR dX10_init_103 fl_X10_35 rfl (by decide) rfl (by decide) rfl ?_
  refine g_callIv dX10_init_106 ln_X10_66 rfl rfl (Nat.le_of_ble_eq_true rfl) (Nat.le_of_ble_eq_true rfl) (by decide) (by decide) rfl (ct_i40 (fun a ha => hI a (by omega)) (fun a ha => hJ a (by omega)) (fun a ha => (upR_n (by omega)).trans (hB a (by omega)))) rfl (fun m106 h106 => ?_)
  subst h106
  refine t_putR dX10_init_109 fl_X10_67 rfl (by decide) rfl (by decide) (by decide) rfl (fun q h => by cases h; rfl) ?_
  refine g_aload_n dX10_init_112 rfl ?_
  refine t_new dX10_init_113 nl_X10_71 rfl (by decide) (by decide) rfl (hI _ (by decide)) (hJ _ (by decide)) ?_
  refine g_dup dX10_init_116 rfl ?_
  refine g_aload_n dX10_init_117 rfl ?_
  refine t_getR dX10_init_118 fl_X10_35 rfl (by decide) rfl (by decide) rfl ?_
  refine g_callIv dX10_init_121 ln_X10_73 rfl rfl (Nat.le_of_ble_eq_true rfl) (Nat.le_of_ble_eq_true rfl) (by decide) (by decide) rfl (ct_i43 (fun a ha => hI a (by omega)) (fun a ha => hJ a (by omega)) (fun a ha => (upR_n (by omega)).trans (hB a (by omega)))) rfl (fun m121 h121 => ?_)
  subst h121
  refine t_putR dX10_init_124 fl_X10_74 rfl (by decide) rfl (by decide) (by decide) rfl (fun q h => by cases h; rfl) ?_
  refine g_aload_n dX10_init_127 rfl ?_
  refine g_bipush (v := 6) dX10_init_128 (by decide) ?_
  refine t_newa (t := 0) dX10_init_130 rfl (by decide) tb_48 rfl (by decide) (by decide) (by decide) (by decide) (by decide) rfl (hI _ (by decide)) (hJ _ (by decide)) (hF _ 47 (by decide) rfl) ?_
  refine t_putR dX10_init_132 fl_X10_78 rfl (by decide) rfl (by decide) (by decide) rfl (fun q h => by cases h; rfl) ?_
  refine g_aload_n dX10_init_135 rfl ?_
  refine g_lconst (v := 1) dX10_init_136 (by decide) ?_
  refine t_putJ dX10_init_137 fl_X10_82 rfl (by decide) rfl (by decide) ?_
  refine g_vret dX10_init_140 ?_
  exact ⟨g1, g2, g3, by rw [upR_id ((hB 0 (by decide)).trans row_0)], hg1, hg2, hg3⟩
theorem i48_tail : Go X (d + 1) 66 M_X11_init 66 142 [.ref 48, .null] [] (I, J, rf0) (RV (fun m => ∃ I', m = (I', J, rf0) ∧ Fr [49, 51, 58] I I' ∧ (∀ q, q < 6 → I' 49 q = -1) ∧ (∀ q, q < 4 → I' 51 q = -1) ∧ I' 58 0 = I 58 0 ∧ ∀ q, q < 3 → I' 58 (q + 1) = -1)) := by
  refine g_iconst (v := 0) dX11_init_142 (by decide) ?_
  refine g_istore_n dX11_init_143 (by decide) ?_
  show Go _ _ _ _ _ _ [_, _] _ _ _
  refine go_mem (fun r I2 => Fr [49, 51, 58] I I2 ∧ I2 51 = I 51 ∧ I2 58 = I 58 ∧ ∀ q, q < r → I2 49 q = -1) 6 (fun r I2 => Go X (d + 1) 66 M_X11_init 66 144 [.ref 48, .int (nI (r))] [] (I2, J, rf0) (RV (fun m => ∃ I', m = (I', J, rf0) ∧ Fr [49, 51, 58] I I' ∧ (∀ q, q < 6 → I' 49 q = -1) ∧ (∀ q, q < 4 → I' 51 q = -1) ∧ I' 58 0 = I 58 0 ∧ ∀ q, q < 3 → I' 58 (q + 1) = -1))) (fun r I2 hr h9 kk => ?_) (fun I2 h9 => ?_) _ ⟨Fr.rf, rfl, rfl, fun q hq => absurd hq (Nat.not_lt_zero q)⟩
  · skip
    refine g_iload_n dX11_init_144 rfl ?_
    refine g_bipush (v := 6) dX11_init_145 (by decide) ?_
    refine g_icmp_ge (tgt := 163) dX11_init_147 (by decide) (fun c147 => ?_) (fun c147 => ?_)
    · exact absurd (nI_lt hr (by decide)) (Int32.not_lt.mpr c147)
    · skip
      refine g_aload_n dX11_init_150 rfl ?_
      refine t_getR dX11_init_151 fl_X11_7 rfl (by decide) rfl (by decide) rfl ?_
      refine g_iload_n dX11_init_154 rfl ?_
      refine g_iconst (v := -1) dX11_init_155 (by decide) ?_
      refine t_iast dX11_init_156 rfl (by decide) (in_nI (by omega) (by decide)) ?_
      refine g_iinc dX11_init_157 rfl (by decide) ?_
      show Go _ _ _ _ _ _ [_, _] _ _ _
      refine g_goto (tgt := 144) dX11_init_160 (by decide) ?_
      rw [nI_inc]
      refine kk _ ⟨h9.1.up (by decide), h9.2.1, h9.2.2.1, fun q hq => ?_⟩
      rw [cl_nI (by omega), upR_s]
      rcases Nat.lt_or_ge q r with q1 | q1
      · rw [pk_un (by omega)]; exact h9.2.2.2 q q1
      · rw [show q = r by omega, pk_us]
  · skip
    refine g_iload_n dX11_init_144 rfl ?_
    refine g_bipush (v := 6) dX11_init_145 (by decide) ?_
    refine g_icmp_ge (tgt := 163) dX11_init_147 (by decide) (fun c147 => ?_) (fun c147 => ?_)
    · skip
      refine g_iconst (v := 0) dX11_init_163 (by decide) ?_
      refine g_istore_n dX11_init_164 (by decide) ?_
      show Go _ _ _ _ _ _ [_, _] _ _ _
      refine go_mem (fun r I2 => Fr [49, 51, 58] I I2 ∧ I2 58 = I 58 ∧ (∀ q, q < 6 → I2 49 q = -1) ∧ ∀ q, q < r → I2 51 q = -1) 4 (fun r I2 => Go X (d + 1) 66 M_X11_init 66 165 [.ref 48, .int (nI (r))] [] (I2, J, rf0) (RV (fun m => ∃ I', m = (I', J, rf0) ∧ Fr [49, 51, 58] I I' ∧ (∀ q, q < 6 → I' 49 q = -1) ∧ (∀ q, q < 4 → I' 51 q = -1) ∧ I' 58 0 = I 58 0 ∧ ∀ q, q < 3 → I' 58 (q + 1) = -1))) (fun r I2 hr h9 kk => ?_) (fun I2 h9 => ?_) _ ⟨h9.1, h9.2.2.1, h9.2.2.2, fun q hq => absurd hq (Nat.not_lt_zero q)⟩
      · skip
        refine g_iload_n dX11_init_165 rfl ?_
        refine g_iconst (v := 4) dX11_init_166 (by decide) ?_
        refine g_icmp_ge (tgt := 183) dX11_init_167 (by decide) (fun c167 => ?_) (fun c167 => ?_)
        · exact absurd (nI_lt hr (by decide)) (Int32.not_lt.mpr c167)
        · skip
          refine g_aload_n dX11_init_170 rfl ?_
          refine t_getR dX11_init_171 fl_X11_16 rfl (by decide) rfl (by decide) rfl ?_
          refine g_iload_n dX11_init_174 rfl ?_
          refine g_iconst (v := -1) dX11_init_175 (by decide) ?_
          refine t_iast dX11_init_176 rfl (by decide) (in_nI (by omega) (by decide)) ?_
          refine g_iinc dX11_init_177 rfl (by decide) ?_
          show Go _ _ _ _ _ _ [_, _] _ _ _
          refine g_goto (tgt := 165) dX11_init_180 (by decide) ?_
          rw [nI_inc]
          refine kk _ ⟨h9.1.up (by decide), h9.2.1, h9.2.2.1, fun q hq => ?_⟩
          rw [cl_nI (by omega), upR_s]
          rcases Nat.lt_or_ge q r with q1 | q1
          · rw [pk_un (by omega)]; exact h9.2.2.2 q q1
          · rw [show q = r by omega, pk_us]
      · skip
        refine g_iload_n dX11_init_165 rfl ?_
        refine g_iconst (v := 4) dX11_init_166 (by decide) ?_
        refine g_icmp_ge (tgt := 183) dX11_init_167 (by decide) (fun c167 => ?_) (fun c167 => ?_)
        · skip
          refine g_iconst (v := 1) dX11_init_183 (by decide) ?_
          refine g_istore_n dX11_init_184 (by decide) ?_
          show Go _ _ _ _ _ _ [_, _] _ _ _
          refine go_mem (fun r I2 => Fr [49, 51, 58] I I2 ∧ I2 58 0 = I 58 0 ∧ (∀ q, q < 6 → I2 49 q = -1) ∧ (∀ q, q < 4 → I2 51 q = -1) ∧ ∀ q, q < r → I2 58 (q + 1) = -1) 3 (fun r I2 => Go X (d + 1) 66 M_X11_init 66 185 [.ref 48, .int (nI (r + 1))] [] (I2, J, rf0) (RV (fun m => ∃ I', m = (I', J, rf0) ∧ Fr [49, 51, 58] I I' ∧ (∀ q, q < 6 → I' 49 q = -1) ∧ (∀ q, q < 4 → I' 51 q = -1) ∧ I' 58 0 = I 58 0 ∧ ∀ q, q < 3 → I' 58 (q + 1) = -1))) (fun r I2 hr h9 kk => ?_) (fun I2 h9 => ?_) _ ⟨h9.1, by rw [h9.2.1], h9.2.2.1, h9.2.2.2, fun q hq => absurd hq (Nat.not_lt_zero q)⟩
          · skip
            refine g_iload_n dX11_init_185 rfl ?_
            refine g_iconst (v := 4) dX11_init_186 (by decide) ?_
            refine g_icmp_ge (tgt := 203) dX11_init_187 (by decide) (fun c187 => ?_) (fun c187 => ?_)
            · exact absurd (nI_lt (show r + 1 < 4 by omega) (by decide)) (Int32.not_lt.mpr c187)
            · skip
              refine g_aload_n dX11_init_190 rfl ?_
              refine t_getR dX11_init_191 fl_X11_38 rfl (by decide) rfl (by decide) rfl ?_
              refine g_iload_n dX11_init_194 rfl ?_
              refine g_iconst (v := -1) dX11_init_195 (by decide) ?_
              refine t_iast dX11_init_196 rfl (by decide) (in_nI (by omega) (by decide)) ?_
              refine g_iinc dX11_init_197 rfl (by decide) ?_
              show Go _ _ _ _ _ _ [_, _] _ _ _
              refine g_goto (tgt := 185) dX11_init_200 (by decide) ?_
              rw [nI_inc]
              refine kk _ ⟨h9.1.up (by decide), ?_, h9.2.2.1, h9.2.2.2.1, fun q hq => ?_⟩
              · rw [cl_nI (by omega), upR_s, pk_un (by omega)]; exact h9.2.1
              · rw [cl_nI (by omega), upR_s]
                rcases Nat.lt_or_ge q r with q1 | q1
                · rw [pk_un (by omega)]; exact h9.2.2.2.2 q q1
                · rw [show q = r by omega, pk_us]
          · skip
            refine g_iload_n dX11_init_185 rfl ?_
            refine g_iconst (v := 4) dX11_init_186 (by decide) ?_
            refine g_icmp_ge (tgt := 203) dX11_init_187 (by decide) (fun c187 => ?_) (fun c187 => ?_)
            · skip
              refine g_vret dX11_init_203 ?_
              exact ⟨I2, rfl, h9.1, h9.2.2.1, h9.2.2.2.1, h9.2.1, h9.2.2.2.2⟩
            · exact absurd (by decide) c187
        · exact absurd (by decide) c167
    · exact absurd (by decide) c147
theorem ct_i48 (hI : ∀ a, 49 ≤ a → I a = fun _ => 0) (hJ : ∀ a, 49 ≤ a → J a = fun _ => 0) : Ct X (d + 1) 66 M_X11_init 49 [.ref 48] (I, J, upR rf0 48 (fun _ => none)) (RV (fun m => ∃ I', m = (I', upR J 48 (vp_updL (J 48) 22 1), rf0) ∧ Fr [49, 51, 58] I I' ∧ (∀ q, q < 6 → I' 49 q = -1) ∧ (∀ q, q < 4 → I' 51 q = -1) ∧ I' 58 0 = I 58 0 ∧ ∀ q, q < 3 → I' 58 (q + 1) = -1)) := by
  have hB : ∀ a, 48 ≤ a → rf0 a = rf0 a := fun _ _ => rfl
  have hF : ∀ (r : Nat → Option Nat) (a : Nat), 49 ≤ a → rf0 a = (fun _ => none) → upR rf0 48 r a = fun _ => none := fun r a ha h => (upR_n (by omega)).trans ((hB a (by omega)).trans h)
  show Go _ _ _ _ _ _ [_, _] _ _ _
  refine g_aload_n dX11_init_0 rfl ?_
  refine g_oinit dX11_init_1 tb_993 oin ocd (Nat.le_of_ble_eq_true rfl) ?_
  refine g_aload_n dX11_init_4 rfl ?_
  refine g_bipush (v := 6) dX11_init_5 (by decide) ?_
  refine t_newa (t := 0) dX11_init_7 rfl (by decide) tb_48 rfl (by decide) (by decide) (by decide) (by decide) (by decide) rfl (hI _ (by decide)) (hJ _ (by decide)) (hF _ 49 (by decide) rfl) ?_
  refine t_putR dX11_init_9 fl_X11_7 rfl (by decide) rfl (by decide) (by decide) rfl (fun q h => by cases h; rfl) ?_
  refine g_aload_n dX11_init_12 rfl ?_
  refine g_sipush (v := 240) dX11_init_13 (by decide) ?_
  refine t_newa (t := 0) dX11_init_16 rfl (by decide) tb_48 rfl (by decide) (by decide) (by decide) (by decide) (by decide) rfl (hI _ (by decide)) (hJ _ (by decide)) (hF _ 50 (by decide) rfl) ?_
  refine t_putR dX11_init_18 fl_X11_13 rfl (by decide) rfl (by decide) (by decide) rfl (fun q h => by cases h; rfl) ?_
  refine g_aload_n dX11_init_21 rfl ?_
  refine g_iconst (v := 4) dX11_init_22 (by decide) ?_
  refine t_newa (t := 0) dX11_init_23 rfl (by decide) tb_48 rfl (by decide) (by decide) (by decide) (by decide) (by decide) rfl (hI _ (by decide)) (hJ _ (by decide)) (hF _ 51 (by decide) rfl) ?_
  refine t_putR dX11_init_25 fl_X11_16 rfl (by decide) rfl (by decide) (by decide) rfl (fun q h => by cases h; rfl) ?_
  refine g_aload_n dX11_init_28 rfl ?_
  refine g_sipush (v := 320) dX11_init_29 (by decide) ?_
  refine t_newa (t := 1) dX11_init_32 rfl (by decide) tb_78 rfl (by decide) (by decide) (by decide) (by decide) (by decide) rfl (hI _ (by decide)) (hJ _ (by decide)) (hF _ 52 (by decide) rfl) ?_
  refine t_putR dX11_init_34 fl_X11_19 rfl (by decide) rfl (by decide) (by decide) rfl (fun q h => by cases h; rfl) ?_
  refine g_aload_n dX11_init_37 rfl ?_
  refine g_bipush (v := 40) dX11_init_38 (by decide) ?_
  refine t_newa (t := 0) dX11_init_40 rfl (by decide) tb_48 rfl (by decide) (by decide) (by decide) (by decide) (by decide) rfl (hI _ (by decide)) (hJ _ (by decide)) (hF _ 53 (by decide) rfl) ?_
  refine t_putR dX11_init_42 fl_X11_23 rfl (by decide) rfl (by decide) (by decide) rfl (fun q h => by cases h; rfl) ?_
  refine g_aload_n dX11_init_45 rfl ?_
  refine g_bipush (v := 14) dX11_init_46 (by decide) ?_
  refine t_newa (t := 0) dX11_init_48 rfl (by decide) tb_48 rfl (by decide) (by decide) (by decide) (by decide) (by decide) rfl (hI _ (by decide)) (hJ _ (by decide)) (hF _ 54 (by decide) rfl) ?_
  refine t_putR dX11_init_50 fl_X11_26 rfl (by decide) rfl (by decide) (by decide) rfl (fun q h => by cases h; rfl) ?_
  refine g_aload_n dX11_init_53 rfl ?_
  refine g_bipush (v := 56) dX11_init_54 (by decide) ?_
  refine t_newa (t := 0) dX11_init_56 rfl (by decide) tb_48 rfl (by decide) (by decide) (by decide) (by decide) (by decide) rfl (hI _ (by decide)) (hJ _ (by decide)) (hF _ 55 (by decide) rfl) ?_
  refine t_putR dX11_init_58 fl_X11_29 rfl (by decide) rfl (by decide) (by decide) rfl (fun q h => by cases h; rfl) ?_
  refine g_aload_n dX11_init_61 rfl ?_
  refine g_bipush (v := 14) dX11_init_62 (by decide) ?_
  refine t_newa (t := 0) dX11_init_64 rfl (by decide) tb_48 rfl (by decide) (by decide) (by decide) (by decide) (by decide) rfl (hI _ (by decide)) (hJ _ (by decide)) (hF _ 56 (by decide) rfl) ?_
  refine t_putR dX11_init_66 fl_X11_32 rfl (by decide) rfl (by decide) (by decide) rfl (fun q h => by cases h; rfl) ?_
  refine g_aload_n dX11_init_69 rfl ?_
  refine g_bipush (v := 56) dX11_init_70 (by decide) ?_
  refine t_newa (t := 0) dX11_init_72 rfl (by decide) tb_48 rfl (by decide) (by decide) (by decide) (by decide) (by decide) rfl (hI _ (by decide)) (hJ _ (by decide)) (hF _ 57 (by decide) rfl) ?_
  refine t_putR dX11_init_74 fl_X11_35 rfl (by decide) rfl (by decide) (by decide) rfl (fun q h => by cases h; rfl) ?_
  refine g_aload_n dX11_init_77 rfl ?_
  refine g_iconst (v := 4) dX11_init_78 (by decide) ?_
  refine t_newa (t := 0) dX11_init_79 rfl (by decide) tb_48 rfl (by decide) (by decide) (by decide) (by decide) (by decide) rfl (hI _ (by decide)) (hJ _ (by decide)) (hF _ 58 (by decide) rfl) ?_
  refine t_putR dX11_init_81 fl_X11_38 rfl (by decide) rfl (by decide) (by decide) rfl (fun q h => by cases h; rfl) ?_
  refine g_aload_n dX11_init_84 rfl ?_
  refine g_sipush (v := 480) dX11_init_85 (by decide) ?_
  refine t_newa (t := 0) dX11_init_88 rfl (by decide) tb_48 rfl (by decide) (by decide) (by decide) (by decide) (by decide) rfl (hI _ (by decide)) (hJ _ (by decide)) (hF _ 59 (by decide) rfl) ?_
  refine t_putR dX11_init_90 fl_X11_41 rfl (by decide) rfl (by decide) (by decide) rfl (fun q h => by cases h; rfl) ?_
  refine g_aload_n dX11_init_93 rfl ?_
  refine g_iconst (v := 4) dX11_init_94 (by decide) ?_
  refine t_newa (t := 0) dX11_init_95 rfl (by decide) tb_48 rfl (by decide) (by decide) (by decide) (by decide) (by decide) rfl (hI _ (by decide)) (hJ _ (by decide)) (hF _ 60 (by decide) rfl) ?_
  refine t_putR dX11_init_97 fl_X11_44 rfl (by decide) rfl (by decide) (by decide) rfl (fun q h => by cases h; rfl) ?_
  refine g_aload_n dX11_init_100 rfl ?_
  refine g_bipush (v := 40) dX11_init_101 (by decide) ?_
  refine t_newa (t := 0) dX11_init_103 rfl (by decide) tb_48 rfl (by decide) (by decide) (by decide) (by decide) (by decide) rfl (hI _ (by decide)) (hJ _ (by decide)) (hF _ 61 (by decide) rfl) ?_
  refine t_putR dX11_init_105 fl_X11_47 rfl (by decide) rfl (by decide) (by decide) rfl (fun q h => by cases h; rfl) ?_
  refine g_aload_n dX11_init_108 rfl ?_
  refine g_lconst (v := 1) dX11_init_109 (by decide) ?_
  refine t_putJ dX11_init_110 fl_X11_50 rfl (by decide) rfl (by decide) ?_
  have hJ : ∀ a, 49 ≤ a → upR J 48 (vp_updL (J 48) 22 1) a = fun _ => 0 := fun a ha => (upR_n (by omega)).trans (hJ a ha)
  refine g_aload_n dX11_init_113 rfl ?_
  refine g_bipush (v := 6) dX11_init_114 (by decide) ?_
  refine t_newa (t := 0) dX11_init_116 rfl (by decide) tb_48 rfl (by decide) (by decide) (by decide) (by decide) (by decide) rfl (hI _ (by decide)) (hJ _ (by decide)) (hF _ 62 (by decide) rfl) ?_
  refine t_putR dX11_init_118 fl_X11_54 rfl (by decide) rfl (by decide) (by decide) rfl (fun q h => by cases h; rfl) ?_
  refine g_aload_n dX11_init_121 rfl ?_
  refine g_iconst (v := 4) dX11_init_122 (by decide) ?_
  refine t_newa (t := 0) dX11_init_123 rfl (by decide) tb_48 rfl (by decide) (by decide) (by decide) (by decide) (by decide) rfl (hI _ (by decide)) (hJ _ (by decide)) (hF _ 63 (by decide) rfl) ?_
  refine t_putR dX11_init_125 fl_X11_57 rfl (by decide) rfl (by decide) (by decide) rfl (fun q h => by cases h; rfl) ?_
  refine g_aload_n dX11_init_128 rfl ?_
  refine g_iconst (v := 4) dX11_init_129 (by decide) ?_
  refine t_newa (t := 0) dX11_init_130 rfl (by decide) tb_48 rfl (by decide) (by decide) (by decide) (by decide) (by decide) rfl (hI _ (by decide)) (hJ _ (by decide)) (hF _ 64 (by decide) rfl) ?_
  refine t_putR dX11_init_132 fl_X11_60 rfl (by decide) rfl (by decide) (by decide) rfl (fun q h => by cases h; rfl) ?_
  refine g_aload_n dX11_init_135 rfl ?_
  refine g_iconst (v := 5) dX11_init_136 (by decide) ?_
  refine t_newa (t := 2) dX11_init_137 rfl (by decide) tb_1079 rfl (by decide) (by decide) (by decide) (by decide) (by decide) rfl (hI _ (by decide)) (hJ _ (by decide)) (hF _ 65 (by decide) rfl) ?_
  refine t_putR dX11_init_139 fl_X11_63 rfl (by decide) rfl (by decide) (by decide) rfl (fun q h => by cases h; rfl) ?_
  rw [upR_id row_48]
  exact i48_tail
end
