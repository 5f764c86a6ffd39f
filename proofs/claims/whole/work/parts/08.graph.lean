def rfo_0 (j : Nat) : Option Nat := match j with
  | 0 => some 1
  | 1 => some 11
  | 2 => some 19
  | 3 => some 22
  | 4 => some 25
  | 5 => some 29
  | 6 => some 36
  | 7 => some 40
  | 8 => some 43
  | 9 => some 47
  | _ => none
def rfo_1 (j : Nat) : Option Nat := match j with
  | 0 => some 2
  | 1 => some 4
  | _ => none
def rfo_2 (j : Nat) : Option Nat := match j with
  | 0 => some 3
  | _ => none
def rfo_11 (j : Nat) : Option Nat := match j with
  | 0 => some 12
  | 1 => some 14
  | _ => none
def rfo_12 (j : Nat) : Option Nat := match j with
  | 0 => some 13
  | _ => none
def rfo_19 (j : Nat) : Option Nat := match j with
  | 0 => some 11
  | 1 => some 20
  | 2 => some 21
  | _ => none
def rfo_22 (j : Nat) : Option Nat := match j with
  | 0 => some 23
  | 1 => some 24
  | _ => none
def rfo_25 (j : Nat) : Option Nat := match j with
  | 0 => some 22
  | 1 => some 26
  | 2 => some 27
  | 3 => some 28
  | _ => none
def rfo_29 (j : Nat) : Option Nat := match j with
  | 0 => some 30
  | 1 => some 32
  | _ => none
def rfo_30 (j : Nat) : Option Nat := match j with
  | 0 => some 31
  | _ => none
def rfo_36 (j : Nat) : Option Nat := match j with
  | 0 => some 22
  | 1 => some 25
  | 2 => some 37
  | 3 => some 38
  | 4 => some 39
  | _ => none
def rfo_40 (j : Nat) : Option Nat := match j with
  | 0 => some 22
  | 1 => some 41
  | 2 => some 42
  | _ => none
def rfo_43 (j : Nat) : Option Nat := match j with
  | 0 => some 22
  | 1 => some 44
  | 2 => some 45
  | 3 => some 46
  | _ => none
def rfo_48 (j : Nat) : Option Nat := match j with
  | 0 => some 49
  | 1 => some 50
  | 2 => some 51
  | 3 => some 52
  | 4 => some 53
  | 7 => some 54
  | 8 => some 55
  | 9 => some 56
  | 10 => some 57
  | 13 => some 58
  | 14 => some 59
  | 18 => some 60
  | 19 => some 61
  | 24 => some 62
  | 25 => some 63
  | 26 => some 64
  | 27 => some 65
  | _ => none
/-- the references after construction -/
def rf0 (k : Nat) : Nat → Option Nat := match k with
  | 0 => rfo_0
  | 1 => rfo_1
  | 2 => rfo_2
  | 4 => fun j => if j < 6 then some (5 + j) else none
  | 11 => rfo_11
  | 12 => rfo_12
  | 14 => fun j => if j < 4 then some (15 + j) else none
  | 19 => rfo_19
  | 22 => rfo_22
  | 25 => rfo_25
  | 29 => rfo_29
  | 30 => rfo_30
  | 32 => fun j => if j < 3 then some (33 + j) else none
  | 36 => rfo_36
  | 40 => rfo_40
  | 43 => rfo_43
  | 48 => rfo_48
  | _ => fun _ => none
section GoT
variable {X : Nat × (Nat → Int32)} {d N1 : Nat} {M : Mth} {N pc : Nat} {L S : List Value} {I : Nat → Nat → Int32} {J : Nat → Nat → Int64} {F : Nat → Nat → Option Nat} {Φ : Option Value → Mem → Prop}
theorem t_getI {k ci n j idx : Nat} {fin : Bool} (hd : decode M.2.1 pc = .ok (.getfield idx, 3)) (f : FL M.1.cls idx ci j fin) (hs : shp k = (0, ci, n)) (hj : j < n) (ht : tyOf ci j = .int) (hk : k < N) (kk : Go X d N1 M N (pc + 3) L (.int (I k j) :: S) (I, J, F) Φ) : Go X d N1 M N pc L (.ref k :: S) (I, J, F) Φ := g_getI hd f hs hj ht hk kk
theorem t_getJ {k ci n j idx : Nat} {fin : Bool} (hd : decode M.2.1 pc = .ok (.getfield idx, 3)) (f : FL M.1.cls idx ci j fin) (hs : shp k = (0, ci, n)) (hj : j < n) (ht : tyOf ci j = .long) (hk : k < N) (kk : Go X d N1 M N (pc + 3) L (.long (J k j) :: S) (I, J, F) Φ) : Go X d N1 M N pc L (.ref k :: S) (I, J, F) Φ := g_getJ hd f hs hj ht hk kk
theorem t_getR {k ci n j idx t : Nat} {fin : Bool} (hd : decode M.2.1 pc = .ok (.getfield idx, 3)) (f : FL M.1.cls idx ci j fin) (hs : shp k = (0, ci, n)) (hj : j < n) (ht : isR (tyOf ci j) = true) (hk : k < N) (hr : F k j = some t) (kk : Go X d N1 M N (pc + 3) L (.ref t :: S) (I, J, F) Φ) : Go X d N1 M N pc L (.ref k :: S) (I, J, F) Φ := g_getR hd f hs hj ht hk hr kk
theorem t_putI {k ci n j idx : Nat} {x : Int32} (hd : decode M.2.1 pc = .ok (.putfield idx, 3)) (f : FL M.1.cls idx ci j false) (hs : shp k = (0, ci, n)) (hj : j < n) (ht : tyOf ci j = .int) (hk : k < N) (kk : Go X d N1 M N (pc + 3) L S (upR I k (upd (I k) j x), J, F) Φ) : Go X d N1 M N pc L (.int x :: .ref k :: S) (I, J, F) Φ := g_putI hd f hs hj ht hk kk
theorem t_putJ {k ci n j idx : Nat} {x : Int64} (hd : decode M.2.1 pc = .ok (.putfield idx, 3)) (f : FL M.1.cls idx ci j false) (hs : shp k = (0, ci, n)) (hj : j < n) (ht : tyOf ci j = .long) (hk : k < N) (kk : Go X d N1 M N (pc + 3) L S (I, upR J k (vp_updL (J k) j x), F) Φ) : Go X d N1 M N pc L (.long x :: .ref k :: S) (I, J, F) Φ := g_putJ hd f hs hj ht hk kk
/-- an int row: of ours, or only read -/
theorem t_iald {k n : Nat} {i : Int32} (hd : decode M.2.1 pc = .ok (.iaload, 1)) (hs : shp k = (1, 0, n)) (hk : k < N) (hi : vp_in i n) (kk : Go X d N1 M N (pc + 1) L (.int (I k i.toNatClampNeg) :: S) (I, J, F) Φ) : Go X d N1 M N pc L (.int i :: .ref k :: S) (I, J, F) Φ := g_iald hd (Or.inl ⟨hk, hs, rfl⟩) hi kk
theorem t_iaro {k n : Nat} {f : Nat → Int32} {i : Int32} (hd : decode M.2.1 pc = .ok (.iaload, 1)) (hk : 100 ≤ k) (hk2 : k < 104) (hr : rol X k = (n, f)) (hi : vp_in i n) (kk : Go X d N1 M N (pc + 1) L (.int (f i.toNatClampNeg) :: S) (I, J, F) Φ) : Go X d N1 M N pc L (.int i :: .ref k :: S) (I, J, F) Φ := g_iald hd (Or.inr ⟨hk, hk2, hr⟩) hi kk
theorem t_alen {k n : Nat} (hd : decode M.2.1 pc = .ok (.arraylength, 1)) (hs : shp k = (1, 0, n)) (hk : k < N) (kk : Go X d N1 M N (pc + 1) L (.int (nI n) :: S) (I, J, F) Φ) : Go X d N1 M N pc L (.ref k :: S) (I, J, F) Φ := g_alen hd (Or.inl ⟨hk, hs, rfl⟩) kk
theorem t_alro {k n : Nat} {f : Nat → Int32} (hd : decode M.2.1 pc = .ok (.arraylength, 1)) (hk : 100 ≤ k) (hk2 : k < 104) (hr : rol X k = (n, f)) (kk : Go X d N1 M N (pc + 1) L (.int (nI n) :: S) (I, J, F) Φ) : Go X d N1 M N pc L (.ref k :: S) (I, J, F) Φ := g_alen hd (Or.inr ⟨hk, hk2, hr⟩) kk
theorem t_bald {k n : Nat} {i : Int32} (hd : decode M.2.1 pc = .ok (.baload, 1)) (hs : shp k = (1, 1, n)) (hk : k < N) (hi : vp_in i n) (kk : Go X d N1 M N (pc + 1) L (.int (I k i.toNatClampNeg) :: S) (I, J, F) Φ) : Go X d N1 M N pc L (.int i :: .ref k :: S) (I, J, F) Φ := g_bald hd hs hk hi kk
theorem t_lald {k n : Nat} {i : Int32} (hd : decode M.2.1 pc = .ok (.laload, 1)) (hs : shp k = (1, 2, n)) (hk : k < N) (hi : vp_in i n) (kk : Go X d N1 M N (pc + 1) L (.long (J k i.toNatClampNeg) :: S) (I, J, F) Φ) : Go X d N1 M N pc L (.int i :: .ref k :: S) (I, J, F) Φ := g_lald hd hs hk hi kk
theorem t_aald {k n t a : Nat} {i : Int32} (hd : decode M.2.1 pc = .ok (.aaload, 1)) (hs : shp k = (1, t, n)) (ht : t = 3 ∨ t = 4) (hk : k < N) (hi : vp_in i n) (hr : F k i.toNatClampNeg = some a) (kk : Go X d N1 M N (pc + 1) L (.ref a :: S) (I, J, F) Φ) : Go X d N1 M N pc L (.int i :: .ref k :: S) (I, J, F) Φ := g_aald hd hs ht hk hi hr kk
theorem t_iast {k n : Nat} {i x : Int32} (hd : decode M.2.1 pc = .ok (.iastore, 1)) (hs : shp k = (1, 0, n)) (hk : k < N) (hi : vp_in i n) (kk : Go X d N1 M N (pc + 1) L S (upR I k (upd (I k) i.toNatClampNeg x), J, F) Φ) : Go X d N1 M N pc L (.int x :: .int i :: .ref k :: S) (I, J, F) Φ := g_iast hd hs hk hi kk
theorem t_bast {k n : Nat} {i x : Int32} (hd : decode M.2.1 pc = .ok (.bastore, 1)) (hs : shp k = (1, 1, n)) (hk : k < N) (hi : vp_in i n) (kk : Go X d N1 M N (pc + 1) L S (upR I k (upd (I k) i.toNatClampNeg (vp_nar .byte x)), J, F) Φ) : Go X d N1 M N pc L (.int x :: .int i :: .ref k :: S) (I, J, F) Φ := g_bast hd hs hk hi kk
theorem t_last {k n : Nat} {i : Int32} {x : Int64} (hd : decode M.2.1 pc = .ok (.lastore, 1)) (hs : shp k = (1, 2, n)) (hk : k < N) (hi : vp_in i n) (kk : Go X d N1 M N (pc + 1) L S (I, upR J k (vp_updL (J k) i.toNatClampNeg x), F) Φ) : Go X d N1 M N pc L (.long x :: .int i :: .ref k :: S) (I, J, F) Φ := g_last hd hs hk hi kk
theorem t_copy {k0 k1 n0 n1 idx : Nat} {sp dp n : Int32} (hd : decode M.2.1 pc = .ok (.invokestatic idx, 3)) (hlk : Cond.methodLink M.1.cls idx arraycopyName ∈ gw_tbl) (hs0 : shp k0 = (1, 0, n0)) (hs1 : shp k1 = (1, 0, n1)) (hk0 : k0 < N) (hk1 : k1 < N) (h1 : ¬ sp < 0) (h2 : ¬ dp < 0) (h3 : ¬ n < 0) (h4 : sp.toNatClampNeg + n.toNatClampNeg ≤ n0) (h5 : dp.toNatClampNeg + n.toNatClampNeg ≤ n1) (hS8 : (S.map fun v => v.category).sum ≤ 8)
    (kk : Go X (d + 1) N1 M N (pc + 3) L S (upR I k1 (va_cpy (I k0) (I k1) sp.toNatClampNeg dp.toNatClampNeg n.toNatClampNeg), J, F) Φ) : Go X (d + 1) N1 M N pc L (.int n :: .int dp :: .ref k1 :: .int sp :: .ref k0 :: S) (I, J, F) Φ := g_copy hd hlk hs0 hs1 hk0 hk1 h1 h2 h3 h4 h5 hS8 kk
theorem g_forget (k : Nat) {μ : Mem} (kk : Go X d N1 M N pc (L.set k .null) S μ Φ) : Go X d N1 M N pc L S μ Φ := by
  intro p l e R s m args below meth c D cA A N0 Q α H locs ls cx w h0 h1 hl en
  refine kk p l e R s m args below meth c D cA A N0 Q α H locs ls cx w h0 h1 ⟨hl.1, hl.2.1, fun i v hi hv => ?_⟩ en
  by_cases hik : i = k
  · subst hik
    by_cases hlt : i < L.length
    · rw [List.getElem?_set_self hlt] at hi
      exact absurd (Option.some.inj hi).symm hv
    · rw [List.getElem?_eq_none (by simp; omega)] at hi
      cases hi
  · rw [List.getElem?_set_ne (fun q => hik q.symm)] at hi
    exact hl.2.2 i v hi hv
theorem t_ist {x : Int32} (kk : ∀ y : Int32, y = x → Go X d N1 M N pc L (.int y :: S) (I, J, F) Φ) : Go X d N1 M N pc L (.int x :: S) (I, J, F) Φ := kk x rfl
end GoT
/-- i times f, from 0 on -/
def foldN {σ : Type} (f : Nat → σ → σ) (s : σ) : Nat → σ
  | 0 => s
  | n + 1 => f n (foldN f s n)
/-- a loop: G i s is what is owed at its head -/
theorem go_for {σ : Type} (f : Nat → σ → σ) (s0 : σ) (e : Nat) (G : Nat → σ → Prop) (hs : ∀ i, i < e → G (i + 1) (foldN f s0 (i + 1)) → G i (foldN f s0 i)) (he : G e (foldN f s0 e)) : G 0 s0 := by
  have h : ∀ n, n ≤ e → G (e - n) (foldN f s0 (e - n)) := by
    intro n
    induction n with
    | zero => intro _; exact he
    | succ n ih =>
      intro hn
      refine hs (e - (n + 1)) (by omega) ?_
      rw [show e - (n + 1) + 1 = e - n by omega]
      exact ih (by omega)
  have := h e (Nat.le_refl _)
  rw [Nat.sub_self] at this
  exact this
theorem nI_inc (i : Nat) : nI i + Int32.ofInt 1 = nI (i + 1) := by rw [nI_succ]; rfl
theorem nI_lit (n : Nat) : (OfNat.ofNat n : Int32) = nI n := rfl
theorem nI_neg {i : Nat} (h : i < 2 ^ 31) : ¬ nI i < 0 := nI_pos h
def bI (b : Bool) : Int32 := if b then 1 else 0
theorem bI_t : bI true = 1 := rfl
theorem bI_f : bI false = 0 := rfl
theorem bI_narrow (b : Bool) : narrow .boolean (.int (bI b)) = .int (bI b) := by cases b <;> rfl
theorem bI_ne {b : Bool} (h : ¬ bI b = 0) : b = true := by cases b with
  | true => rfl
  | false => exact absurd rfl h
theorem bI_eq {b : Bool} (h : bI b = 0) : b = false := by cases b with
  | true => exact absurd h (by decide)
  | false => rfl
/-- an int as a place: some j with j < n -/
theorem ix_of {k : Int32} {n : Nat} (hn : n < 2 ^ 31) (h0 : ¬ k < 0) (h1 : k < nI n) : ∃ j, j < n ∧ k = nI j := by
  obtain ⟨j, hj, rfl⟩ := nI_of h0
  exact ⟨j, (nI_ltI hj hn).mp h1, rfl⟩
theorem in_nI {j n : Nat} (h : j < n) (hn : n < 2 ^ 31) : vp_in (nI j) n := vp_in_nI h hn
theorem cl_nI {j : Nat} (h : j < 2 ^ 31) : (nI j).toNatClampNeg = j := nI_clamp h

