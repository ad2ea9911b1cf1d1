
/-- counts -/
def cN (f : Nat → Int) : Nat → Int
  | 0 => 0
  | n + 1 => cN f n + f n
theorem cN_cg {f g : Nat → Int} : ∀ {n : Nat}, (∀ i : Nat, i < n → f i = g i) → cN f n = cN g n
  | 0, _ => rfl
  | n + 1, h => by
    show cN f n + f n = cN g n + g n
    rw [cN_cg (f := f) (g := g) (n := n) (fun i hi => h i (by omega)), h n (by omega)]
theorem cN_le {f g : Nat → Int} : ∀ {n : Nat}, (∀ i : Nat, i < n → f i ≤ g i) → cN f n ≤ cN g n
  | 0, _ => Int.le_refl _
  | n + 1, h => by
    show cN f n + f n ≤ cN g n + g n
    have a := cN_le (f := f) (g := g) (n := n) (fun i hi => h i (by omega))
    have b := h n (by omega)
    omega
theorem cN_lt {f g : Nat → Int} {j : Nat} : ∀ {n : Nat}, (∀ i : Nat, i < n → f i ≤ g i) → j < n → f j < g j → cN f n < cN g n
  | 0, _, h, _ => absurd h (Nat.not_lt_zero _)
  | n + 1, h, hj, hl => by
    show cN f n + f n < cN g n + g n
    have b := h n (by omega)
    by_cases e : j = n
    · subst e
      have a := cN_le (f := f) (g := g) (n := j) (fun i hi => h i (by omega))
      omega
    · have a := cN_lt (f := f) (g := g) (n := n) (fun i hi => h i (by omega)) (by omega) hl
      omega
theorem cN_b {f : Nat → Int} : ∀ {n : Nat}, (∀ i : Nat, i < n → 0 ≤ f i ∧ f i ≤ 1) → 0 ≤ cN f n ∧ cN f n ≤ n
  | 0, _ => by
    show 0 ≤ (0 : Int) ∧ (0 : Int) ≤ ((0 : Nat) : Int)
    omega
  | n + 1, h => by
    show 0 ≤ cN f n + f n ∧ cN f n + f n ≤ ((n + 1 : Nat) : Int)
    have a := cN_b (f := f) (n := n) (fun i hi => h i (by omega))
    have b := h n (by omega)
    omega
theorem cN_full {f : Nat → Int} : ∀ {n : Nat}, (∀ i : Nat, i < n → 0 ≤ f i ∧ f i ≤ 1) → (n : Int) ≤ cN f n → ∀ i : Nat, i < n → f i = 1
  | 0, _, _, i, hi => absurd hi (Nat.not_lt_zero _)
  | n + 1, h, hn, i, hi => by
    have hn2 : ((n + 1 : Nat) : Int) ≤ cN f n + f n := hn
    have a := cN_b (f := f) (n := n) (fun i hi => h i (by omega))
    have b := h n (by omega)
    by_cases e : i = n
    · subst e
      omega
    · exact cN_full (f := f) (n := n) (fun i hi => h i (by omega)) (by omega) i (by omega)
theorem cN_ext {f : Nat → Int} {n : Nat} : ∀ {m : Nat}, n ≤ m → (∀ i : Nat, n ≤ i → i < m → f i = 0) → cN f m = cN f n
  | 0, h, _ => by rw [show n = 0 from by omega]
  | m + 1, h, h0 => by
    by_cases e : n = m + 1
    · rw [e]
    · show cN f m + f m = cN f n
      rw [cN_ext (f := f) (m := m) (by omega) (fun i a b => h0 i a (by omega)), h0 m (by omega) (by omega)]
      omega
/-- marks as a graph -/
def adj (s : Nat → Int32) (a b : Nat) : Prop := ∃ k : Nat, (k : Int) < (s 3).toInt ∧ mj s k a b
def conn (s : Nat → Int32) (a b : Nat) : Prop := ∀ P : Nat → Prop, P a → (∀ x y : Nat, adj s x y → P x → P y) → P b
/-- heads that stand for their cases, as far as n -/
def HI (s h : Nat → Int32) (n : Int) : Prop := ∀ c : Nat, (c : Int) < n → (0 ≤ (h c).toInt ∧ (h c).toInt ≤ (c : Int)) ∧ conn s c (h c).toNatClampNeg
def MG (s : Nat → Int32) : Prop := ∀ k : Nat, (k : Int) < (s 3).toInt → (0 ≤ (s (146 + 2 * k)).toInt ∧ (s (146 + 2 * k)).toInt < (s 2).toInt) ∧ 0 ≤ (s (147 + 2 * k)).toInt ∧ (s (147 + 2 * k)).toInt < (s 2).toInt
def ME_ (s h : Nat → Int32) (k : Nat) : Prop := h (s (146 + 2 * k)).toNatClampNeg = h (s (147 + 2 * k)).toNatClampNeg
def HD (s h : Nat → Int32) : Prop := HI s h (s 2).toInt ∧ ∀ k : Nat, (k : Int) < (s 3).toInt → ME_ s h k
section GRA
variable {s f : Nat → Int32} {a b c d : Nat}
theorem adj_s (h : adj s a b) : adj s b a := by
  obtain ⟨k, h1, h2⟩ := h
  refine ⟨k, h1, ?_⟩
  unfold mj at h2 ⊢
  omega
theorem conn_r : conn s a a := fun P h _ => h
theorem conn_t (h1 : conn s a b) (h2 : conn s b c) : conn s a c := fun P h k => h2 P (h1 P h k) k
theorem conn_1 (h : adj s a b) : conn s a b := fun P h0 k => k a b h h0
theorem conn_s (h : conn s a b) : conn s b a := h (fun x => conn s x a) conn_r (fun x y hxy hx => conn_t (conn_1 (adj_s hxy)) hx)
theorem adj_b (hG : MG s) (h : adj s a b) : (a : Int) < (s 2).toInt ∧ (b : Int) < (s 2).toInt := by
  obtain ⟨k, h1, h2⟩ := h
  have g := hG k h1
  unfold mj at h2
  omega
theorem conn_b (hG : MG s) (ha : (a : Int) < (s 2).toInt) (h : conn s a b) : (b : Int) < (s 2).toInt := h (fun x => (x : Int) < (s 2).toInt) ha (fun x y hxy _ => (adj_b hG hxy).2)
theorem HI_0 {n : Int} (h : n ≤ 0) : HI s f n := fun c hc => absurd hc (by omega)
theorem HI_dn {n m : Int} (h : HI s f n) (hm : m ≤ n) : HI s f m := fun c hc => h c (by omega)
theorem HI_new {y z : Int32} (hy : 0 ≤ y.toInt) (hz : z.toInt = y.toInt + 1) (h : HI s f y.toInt) : HI s (upd f y.toNatClampNeg y) z.toInt := by
  intro c hc
  have q := t_nn hy
  by_cases e : c = y.toNatClampNeg
  · rw [e, pk_us]
    exact ⟨⟨hy, by omega⟩, conn_r⟩
  · rw [pk_un e]
    exact h c (by omega)
theorem HI_up {n : Int} {p q x : Int32} (hp : 0 ≤ p.toInt ∧ p.toInt < n) (hq : 0 ≤ q.toInt ∧ q.toInt < n) (h : HI s f n) (hab : adj s p.toNatClampNeg q.toNatClampNeg) (hx : x = f p.toNatClampNeg ∨ x = f q.toNatClampNeg) (h1 : x.toInt ≤ (f p.toNatClampNeg).toInt) (h2 : x.toInt ≤ (f q.toNatClampNeg).toInt) : HI s (upd (upd f p.toNatClampNeg x) q.toNatClampNeg x) n := by
  have zp := t_nn hp.1
  have zq := t_nn hq.1
  obtain ⟨A1, A2⟩ := h p.toNatClampNeg (by omega)
  obtain ⟨B1, B2⟩ := h q.toNatClampNeg (by omega)
  have hcx : conn s p.toNatClampNeg x.toNatClampNeg ∧ 0 ≤ x.toInt := by
    rcases hx with e | e
    · rw [e]
      exact ⟨A2, A1.1⟩
    · rw [e]
      exact ⟨conn_t (conn_1 hab) B2, B1.1⟩
  intro c hc
  by_cases e : c = q.toNatClampNeg
  · rw [e, pk_us]
    exact ⟨⟨hcx.2, by omega⟩, conn_t (conn_1 (adj_s hab)) hcx.1⟩
  · rw [pk_un e]
    by_cases e2 : c = p.toNatClampNeg
    · rw [e2, pk_us]
      exact ⟨⟨hcx.2, by omega⟩, hcx.1⟩
    · rw [pk_un e2]
      exact h c hc
theorem HD_eq (h : HD s f) (hc : conn s a b) : f a = f b := by
  refine hc (fun x => f a = f x) rfl (fun x y hxy hx => ?_)
  obtain ⟨k, h1, h2⟩ := hxy
  have q : f (s (146 + 2 * k)).toNatClampNeg = f (s (147 + 2 * k)).toNatClampNeg := h.2 k h1
  unfold mj at h2
  rcases h2 with ⟨e1, e2⟩ | ⟨e1, e2⟩
  · rw [nt e1, nt e2] at q
    exact hx.trans q
  · rw [nt e1, nt e2] at q
    exact hx.trans q.symm
theorem HD_iff (h : HD s f) (ha : (a : Int) < (s 2).toInt) (hb : (b : Int) < (s 2).toInt) : f a = f b ↔ conn s a b := by
  refine ⟨fun e => ?_, fun e => HD_eq h e⟩
  have h1 := (h.1 a ha).2
  have h2 := (h.1 b hb).2
  rw [e] at h1
  exact conn_t h1 (conn_s h2)
end GRA
/-- sets of cases, as bits -/
def bt (x : Int32) (d : Nat) : Prop := (btx x (Int32.ofNat d)).toInt = 1
def ok6 (x : Int32) : Prop := 0 ≤ x.toInt ∧ x.toInt < 64
theorem or_n : ∀ x y : Fin 64, Int32.ofNat x.val ||| Int32.ofNat y.val = Int32.ofNat (x.val ||| y.val) ∧ x.val ||| y.val < 64 := by decide +kernel
theorem bt_n : ∀ x : Fin 64, ∀ d : Fin 6, (btx (Int32.ofNat x.val) (Int32.ofNat d.val)).toInt = 1 ↔ x.val.testBit d.val = true := by decide +kernel
theorem bt_nn {x : Int32} (h : ok6 x) {d : Nat} (hd : d < 6) : bt x d ↔ x.toNatClampNeg.testBit d = true := by
  have z := t_nn h.1
  have e := ofn h.1
  have k : (btx (Int32.ofNat x.toNatClampNeg) (Int32.ofNat d)).toInt = 1 ↔ x.toNatClampNeg.testBit d = true := bt_n ⟨x.toNatClampNeg, by have := h.2; omega⟩ ⟨d, hd⟩
  rw [← e] at k
  exact k
theorem or_bt {x y : Int32} (hx : ok6 x) (hy : ok6 y) : ok6 (x ||| y) ∧ ∀ d : Nat, d < 6 → (bt (x ||| y) d ↔ (bt x d ∨ bt y d)) := by
  have zx := t_nn hx.1
  have zy := t_nn hy.1
  have lx := hx.2
  have ly := hy.2
  have k : Int32.ofNat x.toNatClampNeg ||| Int32.ofNat y.toNatClampNeg = Int32.ofNat (x.toNatClampNeg ||| y.toNatClampNeg) ∧ x.toNatClampNeg ||| y.toNatClampNeg < 64 := or_n ⟨x.toNatClampNeg, by omega⟩ ⟨y.toNatClampNeg, by omega⟩
  rw [← ofn hx.1, ← ofn hy.1] at k
  have kz : (x ||| y).toInt = ((x.toNatClampNeg ||| y.toNatClampNeg : Nat) : Int) := by
    rw [k.1]
    exact Int32.toInt_ofNat_of_lt (by omega)
  have ko : ok6 (x ||| y) := ⟨by omega, by omega⟩
  refine ⟨ko, fun d hd => ?_⟩
  rw [bt_nn ko hd, bt_nn hx hd, bt_nn hy hd, nt kz, Nat.testBit_or, Bool.or_eq_true]
def qI (M : Nat → Int32) : Nat → Int32 → Int32
  | 0, b => b
  | n + 1, b => if (btx (qI M n b) (Int32.ofNat n)).toInt = 1 then qI M n b ||| M n else qI M n b
def qO (M : Nat → Int32) (n : Nat) : Nat → Int32 → Int32
  | 0, b => b
  | k + 1, b => qI M n (qO M n k b)
theorem qI_p {M : Nat → Int32} {n : Nat} {b : Int32} (h : (btx (qI M n b) (Int32.ofNat n)).toInt = 1) : qI M (n + 1) b = qI M n b ||| M n := if_pos h
theorem qI_n {M : Nat → Int32} {n : Nat} {b : Int32} (h : ¬ (btx (qI M n b) (Int32.ofNat n)).toInt = 1) : qI M (n + 1) b = qI M n b := if_neg h
section QIS
variable {M : Nat → Int32} {b : Int32}
theorem qI_ok (hb : ok6 b) : ∀ {n : Nat}, (∀ c : Nat, c < n → ok6 (M c)) → ok6 (qI M n b)
  | 0, _ => hb
  | n + 1, hM => by
    have h := qI_ok hb (n := n) (fun c hc => hM c (by omega))
    by_cases e : (btx (qI M n b) (Int32.ofNat n)).toInt = 1
    · rw [qI_p e]
      exact (or_bt h (hM n (by omega))).1
    · rw [qI_n e]
      exact h
theorem qI_1 (hb : ok6 b) {n d : Nat} (hM : ∀ c : Nat, c < n + 1 → ok6 (M c)) (hd : d < 6) (h : bt (qI M n b) d) : bt (qI M (n + 1) b) d := by
  by_cases e : (btx (qI M n b) (Int32.ofNat n)).toInt = 1
  · rw [qI_p e]
    exact ((or_bt (qI_ok hb (fun c hc => hM c (by omega))) (hM n (by omega))).2 d hd).mpr (Or.inl h)
  · rw [qI_n e]
    exact h
theorem qI_up (hb : ok6 b) {d : Nat} (hd : d < 6) (h : bt b d) : ∀ {n : Nat}, (∀ c : Nat, c < n → ok6 (M c)) → bt (qI M n b) d
  | 0, _ => h
  | n + 1, hM => qI_1 hb hM hd (qI_up hb hd h (n := n) (fun c hc => hM c (by omega)))
theorem qI_c (hb : ok6 b) {i d : Nat} (hd : d < 6) (h : bt b i) (hm : bt (M i) d) : ∀ {n : Nat}, n ≤ 6 → (∀ c : Nat, c < n → ok6 (M c)) → i < n → bt (qI M n b) d
  | 0, _, _, hi => absurd hi (Nat.not_lt_zero _)
  | n + 1, hn, hM, hi => by
    by_cases e : i = n
    · have q : (btx (qI M n b) (Int32.ofNat n)).toInt = 1 := by
        rw [e] at h
        exact qI_up hb (by omega) h (fun c hc => hM c (by omega))
      rw [qI_p q]
      rw [e] at hm
      exact ((or_bt (qI_ok hb (fun c hc => hM c (by omega))) (hM n (by omega))).2 d hd).mpr (Or.inr hm)
    · exact qI_1 hb hM hd (qI_c hb hd h hm (n := n) (by omega) (fun c hc => hM c (by omega)) (by omega))
theorem qI_d (hb : ok6 b) {C : Nat → Prop} (hC : ∀ d : Nat, d < 6 → bt b d → C d) : ∀ {n : Nat}, n ≤ 6 → (∀ c : Nat, c < n → ok6 (M c)) → (∀ c d : Nat, c < n → d < 6 → bt (M c) d → C c → C d) → ∀ d : Nat, d < 6 → bt (qI M n b) d → C d
  | 0, _, _, _ => hC
  | n + 1, hn, hM, hS => fun d hd h => by
    have ih := qI_d hb hC (n := n) (by omega) (fun c hc => hM c (by omega)) (fun c d hc => hS c d (by omega))
    by_cases e : (btx (qI M n b) (Int32.ofNat n)).toInt = 1
    · rw [qI_p e] at h
      rcases ((or_bt (qI_ok hb (fun c hc => hM c (by omega))) (hM n (by omega))).2 d hd).mp h with q | q
      · exact ih d hd q
      · exact hS n d (by omega) hd q (ih n (by omega) e)
    · rw [qI_n e] at h
      exact ih d hd h
end QIS
def bi (x : Int32) (d : Nat) : Int := if (btx x (Int32.ofNat d)).toInt = 1 then 1 else 0
theorem bi_1 {x : Int32} {d : Nat} (h : bt x d) : bi x d = 1 := if_pos h
theorem bi_0 {x : Int32} {d : Nat} (h : ¬ bt x d) : bi x d = 0 := if_neg h
theorem bi_b (x : Int32) (d : Nat) : 0 ≤ bi x d ∧ bi x d ≤ 1 := by
  by_cases h : bt x d
  · rw [bi_1 h]
    decide
  · rw [bi_0 h]
    decide
def clo (M : Nat → Int32) (n : Nat) (b : Int32) : Prop := ∀ i d : Nat, i < n → d < 6 → bt b i → bt (M i) d → bt b d
theorem qO_ok {M : Nat → Int32} {n : Nat} {b : Int32} (hM : ∀ c : Nat, c < n → ok6 (M c)) (hb : ok6 b) : ∀ k : Nat, ok6 (qO M n k b)
  | 0 => hb
  | k + 1 => qI_ok (qO_ok hM hb k) hM
theorem qO_clo {M : Nat → Int32} {n : Nat} {b : Int32} (hn : n ≤ 6) (hM : ∀ c : Nat, c < n → ok6 (M c)) (hS : ∀ c d : Nat, c < n → d < 6 → bt (M c) d → d < n) (hb : ok6 b) {o : Nat} (ho : o < n) (h1 : bt b o) : ∀ k : Nat, clo M n (qO M n k b) ∨ (k : Int) + 1 ≤ cN (bi (qO M n k b)) n
  | 0 => by
    refine Or.inr ?_
    have q : cN (fun _ => 0) n < cN (bi b) n := cN_lt (j := o) (fun i _ => (bi_b b i).1) ho (by show (0 : Int) < bi b o; rw [bi_1 h1]; decide)
    have z : ∀ m : Nat, cN (fun _ => 0) m = 0 := fun m => by
      induction m with
      | zero => rfl
      | succ m ih =>
        show cN (fun _ => 0) m + 0 = 0
        omega
    rw [z] at q
    show ((0 : Nat) : Int) + 1 ≤ cN (bi b) n
    omega
  | k + 1 => by
    have ok := qO_ok hM hb k
    have up : ∀ d : Nat, d < 6 → bt (qO M n k b) d → bt (qO M n (k + 1) b) d := fun d hd h => qI_up ok hd h hM
    by_cases hc : clo M n (qO M n k b)
    · refine Or.inl (fun i d hi hd h1 h2 => ?_)
      have back : ∀ d : Nat, d < 6 → bt (qO M n (k + 1) b) d → bt (qO M n k b) d := qI_d ok (C := fun d => bt (qO M n k b) d) (fun d _ h => h) hn hM (fun c d hc1 hd h1 h2 => hc c d hc1 hd h2 h1)
      exact up d hd (hc i d hi hd (back i (by omega) h1) h2)
    · rcases qO_clo hn hM hS hb ho h1 k with q | q
      · exact absurd q hc
      · refine Or.inr ?_
        have ⟨i, d, hi, hd, g1, g2, g3⟩ : ∃ i d : Nat, i < n ∧ d < 6 ∧ bt (qO M n k b) i ∧ bt (M i) d ∧ ¬ bt (qO M n k b) d := by
          refine Classical.byContradiction (fun hx => hc (fun i d hi hd g1 g2 => Classical.byContradiction (fun g3 => hx ⟨i, d, hi, hd, g1, g2, g3⟩)))
        have lt : cN (bi (qO M n k b)) n < cN (bi (qO M n (k + 1) b)) n := by
          refine cN_lt (j := d) (fun i hi => ?_) (hS i d hi hd g2) ?_
          · by_cases e : bt (qO M n k b) i
            · rw [bi_1 e, bi_1 (up i (by omega) e)]
              exact Int.le_refl _
            · rw [bi_0 e]
              exact (bi_b _ _).1
          · rw [bi_0 g3, show bi (qO M n (k + 1) b) d = 1 from bi_1 (qI_c ok hd g1 g2 hn hM hi)]
            decide
        omega
theorem qO_d {M : Nat → Int32} {n : Nat} {b : Int32} (hn : n ≤ 6) (hM : ∀ c : Nat, c < n → ok6 (M c)) (hb : ok6 b) {C : Nat → Prop} (hC : ∀ d : Nat, d < 6 → bt b d → C d) (hS : ∀ c d : Nat, c < n → d < 6 → bt (M c) d → C c → C d) : ∀ k : Nat, ∀ d : Nat, d < 6 → bt (qO M n k b) d → C d
  | 0 => hC
  | k + 1 => qI_d (qO_ok hM hb k) (qO_d hn hM hb hC hS k) hn hM hS
theorem qO_up {M : Nat → Int32} {n : Nat} {b : Int32} (hM : ∀ c : Nat, c < n → ok6 (M c)) (hb : ok6 b) {d : Nat} (hd : d < 6) (h : bt b d) : ∀ k : Nat, bt (qO M n k b) d
  | 0 => h
  | k + 1 => qI_up (qO_ok hM hb k) hd (qO_up hM hb hd h k) hM
theorem qO_full {M : Nat → Int32} {n : Nat} {b : Int32} (hn : n ≤ 6) (hM : ∀ c : Nat, c < n → ok6 (M c)) (hS : ∀ c d : Nat, c < n → d < 6 → bt (M c) d → d < n) (hb : ok6 b) {o : Nat} (ho : o < n) (h1 : bt b o) : clo M n (qO M n (n - 1) b) := by
  rcases qO_clo hn hM hS hb ho h1 (n - 1) with q | q
  · exact q
  · intro i d hi hd g1 g2
    have f := cN_full (f := bi (qO M n (n - 1) b)) (fun i _ => bi_b (qO M n (n - 1) b) i) (by omega) d (hS i d hi hd g2)
    refine Classical.byContradiction (fun g3 => ?_)
    rw [bi_0 g3] at f
    exact absurd f (by decide)
theorem sh_1 : ∀ o : Fin 6, (0 ≤ ((1 : Int32) <<< (Int32.ofNat o.val &&& 31)).toInt ∧ ((1 : Int32) <<< (Int32.ofNat o.val &&& 31)).toInt < 64) ∧ ∀ d : Fin 6, ((btx ((1 : Int32) <<< (Int32.ofNat o.val &&& 31)) (Int32.ofNat d.val)).toInt = 1 ↔ d.val = o.val) := by decide +kernel
/-- the quarrel of a case -/
def qB (M : Nat → Int32) (n : Nat) (x : Int32) : Int32 := qO M n (n - 1) (1 <<< (x &&& 31))
theorem qB_conn {s M : Nat → Int32} (hG : MG s) (h2 : (s 2).toInt ≤ 6) {n : Nat} (hn : (n : Int) = (s 2).toInt) (hM : ∀ c : Nat, c < n → ok6 (M c) ∧ ∀ d : Nat, d < 6 → (bt (M c) d ↔ adj s c d)) {x : Int32} {o : Nat} (hx : x.toInt = (o : Int)) (ho : o < n) : ok6 (qB M n x) ∧ ∀ d : Nat, d < 6 → (bt (qB M n x) d ↔ conn s o d) := by
  have ex : x = Int32.ofNat o := by
    have e := ofn (x := x) (by omega)
    rw [nt hx] at e
    exact e
  have hb := sh_1 ⟨o, by omega⟩
  have hb1 : ok6 (1 <<< (x &&& 31)) := by
    rw [ex]
    exact hb.1
  have hb2 : ∀ d : Nat, d < 6 → (bt (1 <<< (x &&& 31)) d ↔ d = o) := fun d hd => by
    rw [ex]
    exact hb.2 ⟨d, hd⟩
  have hMo : ∀ c : Nat, c < n → ok6 (M c) := fun c hc => (hM c hc).1
  have hS : ∀ c d : Nat, c < n → d < 6 → bt (M c) d → d < n := fun c d hc hd h => by
    have q := (adj_b hG (((hM c hc).2 d hd).mp h)).2
    omega
  have hup : bt (qB M n x) o := qO_up hMo hb1 (by omega) ((hb2 o (by omega)).mpr rfl) (n - 1)
  have hcl := qO_full (by omega) hMo hS hb1 ho ((hb2 o (by omega)).mpr rfl)
  refine ⟨qO_ok hMo hb1 (n - 1), fun d hd => ⟨fun h => ?_, fun h => ?_⟩⟩
  · refine qO_d (by omega) hMo hb1 (C := fun d => conn s o d) (fun d hd h => ?_) (fun c d hc hd h1 h2 => conn_t h2 (conn_1 (((hM c hc).2 d hd).mp h1))) (n - 1) d hd h
    rw [(hb2 d hd).mp h]
    exact conn_r
  · have q : d < n ∧ bt (qB M n x) d := h (fun d => d < n ∧ bt (qB M n x) d) ⟨ho, hup⟩ (fun y z hyz hy => by
      have w := adj_b hG hyz
      exact ⟨by omega, hcl y z hy.1 (by omega) hy.2 (((hM y hy.1).2 z (by omega)).mpr hyz)⟩)
    exact q.2
/-- the first of n that is there, or n -/
def hF (b : Int32) : Nat → Nat
  | 0 => 0
  | n + 1 => if hF b n < n then hF b n else if (btx b (Int32.ofNat n)).toInt = 1 then n else n + 1
theorem hF_s (b : Int32) (n : Nat) : hF b (n + 1) = if hF b n < n then hF b n else if (btx b (Int32.ofNat n)).toInt = 1 then n else n + 1 := rfl
theorem hF_le (b : Int32) : ∀ n : Nat, hF b n ≤ n
  | 0 => Nat.le_refl _
  | n + 1 => by
    rw [hF_s]
    have h := hF_le b n
    split
    · omega
    · split <;> omega
theorem hF_no {b : Int32} {n : Nat} (h : hF b n = n) (hb : ¬ bt b n) : hF b (n + 1) = n + 1 := by
  rw [hF_s, if_neg (by omega), if_neg (show ¬ (btx b (Int32.ofNat n)).toInt = 1 from hb)]
theorem hF_hit {b : Int32} {y : Nat} (h : hF b y = y) (hb : bt b y) : ∀ n : Nat, y < n → hF b n = y
  | 0, hn => absurd hn (Nat.not_lt_zero _)
  | n + 1, hn => by
    rw [hF_s]
    by_cases e : y = n
    · subst e
      rw [if_neg (by omega), if_pos (show (btx b (Int32.ofNat y)).toInt = 1 from hb)]
    · rw [hF_hit h hb n (by omega), if_pos (by omega)]
theorem hF_sp (b : Int32) : ∀ n : Nat, (hF b n < n → bt b (hF b n)) ∧ ∀ i : Nat, i < hF b n → ¬ bt b i
  | 0 => ⟨fun h => absurd h (Nat.not_lt_zero _), fun i h => absurd h (Nat.not_lt_zero _)⟩
  | n + 1 => by
    obtain ⟨h1, h2⟩ := hF_sp b n
    have hl := hF_le b n
    rw [hF_s]
    by_cases e : hF b n < n
    · rw [if_pos e]
      exact ⟨fun _ => h1 e, h2⟩
    · rw [if_neg e]
      have en : hF b n = n := by omega
      rw [en] at h2
      by_cases g : (btx b (Int32.ofNat n)).toInt = 1
      · rw [if_pos g]
        exact ⟨fun _ => g, h2⟩
      · rw [if_neg g]
        refine ⟨fun q => absurd q (by omega), fun i hi => ?_⟩
        by_cases e2 : i = n
        · rw [e2]
          exact g
        · exact h2 i (by omega)
/-- the heads of both sides -/
theorem head_eq {s f M : Nat → Int32} (hG : MG s) (h2 : (s 2).toInt ≤ 6) (hD : HD s f) {n : Nat} (hn : (n : Int) = (s 2).toInt) (hM : ∀ c : Nat, c < n → ok6 (M c) ∧ ∀ d : Nat, d < 6 → (bt (M c) d ↔ adj s c d)) {x : Int32} {o : Nat} (hx : x.toInt = (o : Int)) (ho : o < n) : ((hF (qB M n x) o : Nat) : Int) = (f o).toInt := by
  obtain ⟨-, hq⟩ := qB_conn hG h2 hn hM hx ho
  obtain ⟨⟨b1, b2⟩, b3⟩ := hD.1 o (by omega)
  have z := t_nn b1
  have hl := hF_le (qB M n x) o
  obtain ⟨s1, s2⟩ := hF_sp (qB M n x) o
  have hg : bt (qB M n x) (f o).toNatClampNeg := (hq _ (by omega)).mpr b3
  have l1 : hF (qB M n x) o ≤ (f o).toNatClampNeg := Nat.le_of_not_lt (fun q => s2 _ q hg)
  have hc : conn s o (hF (qB M n x) o) := by
    by_cases e : hF (qB M n x) o < o
    · exact (hq _ (by omega)).mp (s1 e)
    · rw [show hF (qB M n x) o = o from by omega]
      exact conn_r
  have l2 := (hD.1 (hF (qB M n x) o) (by omega)).1.2
  rw [← HD_eq hD hc] at l2
  omega
theorem many_eq {s f M : Nat → Int32} (hG : MG s) (h2 : (s 2).toInt ≤ 6) (hD : HD s f) {n : Nat} (hn : (n : Int) = (s 2).toInt) (hM : ∀ c : Nat, c < n → ok6 (M c) ∧ ∀ d : Nat, d < 6 → (bt (M c) d ↔ adj s c d)) {x : Int32} {o : Nat} (hx : x.toInt = (o : Int)) (ho : o < n) : cN (bi (qB M n x)) 6 = cN (fun c => if (f c).toInt = (f o).toInt then 1 else 0) n := by
  obtain ⟨-, hq⟩ := qB_conn hG h2 hn hM hx ho
  rw [cN_ext (n := n) (by omega) (fun i h1 h3 => bi_0 (fun h => by have q := conn_b hG (by omega) ((hq i h3).mp h); omega))]
  refine cN_cg (fun i hi => ?_)
  by_cases e : conn s o i
  · rw [bi_1 ((hq i (by omega)).mpr e)]
    show 1 = if (f i).toInt = (f o).toInt then (1 : Int) else 0
    rw [if_pos (by rw [HD_eq hD e])]
  · rw [bi_0 (fun h => e ((hq i (by omega)).mp h))]
    show 0 = if (f i).toInt = (f o).toInt then (1 : Int) else 0
    rw [if_neg (fun h => e ((HD_iff hD (by omega) (by omega)).mp (Int32.toInt_inj.mp h).symm))]
