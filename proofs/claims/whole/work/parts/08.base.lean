/-! PHASE 2, BASE: numbers, worlds, loops, sets of guests -/
theorem lu_ck {α : Type} {i m : Nat} {x : Option α} (h : i < m) (hm : m < 2 ^ 31) : lt_ck (nI i) m x = x := by
  unfold lt_ck; rw [if_neg (nI_in h hm)]
theorem lu_ckv {α : Type} {i : Int32} {j m : Nat} {x : Option α} (e : i = nI j) (h : j < m) (hm : m < 2 ^ 31) : lt_ck i m x = x := by
  rw [e]; exact lu_ck h hm
theorem lu_let {α β : Type} (a : α) (f : α → β) : lt_let a f = f a := rfl
theorem lu_bind {α β : Type} (a : α) (f : α → Option β) : Option.bind (some a) f = f a := rfl
theorem lu_bz0 {α : Type} (x : Option α) : lt_bz 0 x = x := rfl
theorem lu_bz1 {α : Type} (x : Option α) : lt_bz 1 x = x := rfl
theorem lu_zle {i : Nat} (h : i < 2 ^ 31) : nI i ≤ 0 ↔ i = 0 := by
  rw [show (0 : Int32) = nI 0 from rfl, nI_leI h (by decide)]; omega
theorem lu_ne1 {i : Nat} (h : i < 2 ^ 31) : ¬ nI i = -1 := fun e => nI_pos h (by rw [e]; decide)
theorem lu_m1ne {i : Nat} (h : i < 2 ^ 31) : ¬ (-1 : Int32) = nI i := fun e => lu_ne1 h e.symm
/-- worlds -/
theorem lu_gisi {w : lt_W} {a k b j : Nat} {v : Int32} : lt_gi (lt_si w a k v) b j = if b = a ∧ j = k then v else lt_gi w b j := rfl
theorem lu_gisl {w : lt_W} {a k b j : Nat} {v : Int64} : lt_gi (lt_sl w a k v) b j = lt_gi w b j := rfl
theorem lu_glsi {w : lt_W} {a k b j : Nat} {v : Int32} : lt_gl (lt_si w a k v) b j = lt_gl w b j := rfl
theorem lu_glsl {w : lt_W} {a k b j : Nat} {v : Int64} : lt_gl (lt_sl w a k v) b j = if b = a ∧ j = k then v else lt_gl w b j := rfl
theorem lu_gici {w : lt_W} {a b sp dp n q j : Nat} : lt_gi (lt_ci w a b sp dp n) q j = if q = b ∧ dp ≤ j ∧ j < dp + n then lt_gi w a (sp + (j - dp)) else lt_gi w q j := rfl
theorem lu_glci {w : lt_W} {a b sp dp n q j : Nat} : lt_gl (lt_ci w a b sp dp n) q j = lt_gl w q j := rfl
theorem lu_gicl {w : lt_W} {a b sp dp n q j : Nat} : lt_gi (lt_cl w a b sp dp n) q j = lt_gi w q j := rfl
theorem lu_glcl {w : lt_W} {a b sp dp n q j : Nat} : lt_gl (lt_cl w a b sp dp n) q j = if q = b ∧ dp ≤ j ∧ j < dp + n then lt_gl w a (sp + (j - dp)) else lt_gl w q j := rfl
theorem lu_eq {w : lt_W} {a k : Nat} {v : Int32} : lt_gi (lt_si w a k v) a k = v := by rw [lu_gisi, if_pos ⟨rfl, rfl⟩]
theorem lu_ne {w : lt_W} {a k b j : Nat} {v : Int32} (h : b ≠ a ∨ j ≠ k) : lt_gi (lt_si w a k v) b j = lt_gi w b j := by
  rw [lu_gisi, if_neg (by rintro ⟨rfl, rfl⟩; rcases h with h | h <;> exact h rfl)]
/-- what two worlds have alike: all longs, all ints of the cells outside lo .. hi -/
def lu_Fr (lo hi : Nat) (w w' : lt_W) : Prop := (∀ a k, lt_gl w' a k = lt_gl w a k) ∧ ∀ a k, (a < lo ∨ hi ≤ a) → lt_gi w' a k = lt_gi w a k
theorem lu_Fr.refl (lo hi : Nat) (w : lt_W) : lu_Fr lo hi w w := ⟨fun _ _ => rfl, fun _ _ _ => rfl⟩
theorem lu_Fr.trans {lo hi : Nat} {w w' w'' : lt_W} (h : lu_Fr lo hi w w') (h' : lu_Fr lo hi w' w'') : lu_Fr lo hi w w'' :=
  ⟨fun a k => (h'.1 a k).trans (h.1 a k), fun a k z => (h'.2 a k z).trans (h.2 a k z)⟩
theorem lu_Fr.wide {lo hi lo' hi' : Nat} {w w' : lt_W} (h : lu_Fr lo hi w w') (h1 : lo' ≤ lo) (h2 : hi ≤ hi') : lu_Fr lo' hi' w w' :=
  ⟨h.1, fun a k z => h.2 a k (by omega)⟩
theorem lu_Fr.si {lo hi a k : Nat} {v : Int32} {w w' : lt_W} (h : lu_Fr lo hi w w') (h1 : lo ≤ a) (h2 : a < hi) : lu_Fr lo hi w (lt_si w' a k v) :=
  ⟨fun b j => h.1 b j, fun b j z => by rw [lu_ne (Or.inl (by omega))]; exact h.2 b j z⟩
/-- loops -/
theorem lu_up {β γ : Type} (F : Nat → Nat → β → Option γ) (n : Nat) (s : Nat → β) (r : Option γ) (step : ∀ f k, k < n → F (f + 1) k (s k) = F f (k + 1) (s (k + 1))) (last : ∀ f, F (f + 1) n (s n) = r) : ∀ f k, k ≤ n → n < f + k → F f k (s k) = r := by
  intro f
  induction f with
  | zero => intro k h1 h2; omega
  | succ f ih =>
    intro k h1 h2
    by_cases e : k = n
    · subst e; exact last f
    · rw [step f k (by omega)]; exact ih (k + 1) (by omega) (by omega)
theorem lu_wf {β γ : Type} (F : Nat → β → Option γ) (I : β → Prop) (Q : γ → Prop) (μ : β → Nat) (step : ∀ f b, I b → (∃ b', F (f + 1) b = F f b' ∧ I b' ∧ μ b' < μ b) ∨ (∃ r, F (f + 1) b = some r ∧ Q r)) : ∀ f b, I b → μ b < f → ∃ r, F f b = some r ∧ Q r := by
  intro f
  induction f with
  | zero => intro b _ h; omega
  | succ f ih =>
    intro b hb hm
    rcases step f b hb with ⟨b', e, hb', hm'⟩ | ⟨r, e, hr⟩
    · rw [e]; exact ih b' hb' (by omega)
    · exact ⟨r, e, hr⟩
/-- a loop by a counter, over a state with an invariant -/
theorem lu_upR {β γ : Type} (F : Nat → Nat → β → Option γ) (n : Nat) (I : Nat → β → Prop) (Q : γ → Prop) (step : ∀ f k b, k < n → I k b → ∃ b', F (f + 1) k b = F f (k + 1) b' ∧ I (k + 1) b') (last : ∀ f b, I n b → ∃ r, F (f + 1) n b = some r ∧ Q r) : ∀ f k b, k ≤ n → n < f + k → I k b → ∃ r, F f k b = some r ∧ Q r := by
  intro f
  induction f with
  | zero => intro k b h1 h2; omega
  | succ f ih =>
    intro k b h1 h2 hb
    by_cases e : k = n
    · subst e; exact last f b hb
    · obtain ⟨b', e', hb'⟩ := step f k b (by omega) hb
      rw [e']; exact ih (k + 1) b' (by omega) (by omega) hb'
/-- the same, the loop may end ahead -/
theorem lu_upE {β γ : Type} (F : Nat → Nat → β → Option γ) (n : Nat) (I : Nat → β → Prop) (Q : γ → Prop) (step : ∀ f k b, k < n → I k b → (∃ b', F (f + 1) k b = F f (k + 1) b' ∧ I (k + 1) b') ∨ (∃ r, F (f + 1) k b = some r ∧ Q r)) (last : ∀ f b, I n b → ∃ r, F (f + 1) n b = some r ∧ Q r) : ∀ f k b, k ≤ n → n < f + k → I k b → ∃ r, F f k b = some r ∧ Q r := by
  intro f
  induction f with
  | zero => intro k b h1 h2; omega
  | succ f ih =>
    intro k b h1 h2 hb
    by_cases e : k = n
    · subst e; exact last f b hb
    · rcases step f k b (by omega) hb with ⟨b', e', hb'⟩ | h
      · rw [e']; exact ih (k + 1) b' (by omega) (by omega) hb'
      · exact h
theorem lu_fu (n : Nat) : lt_fu = lt_fu - 1 + 1 := rfl
/-- small numbers -/
def lu_R (v : Int32) (lo hi : Nat) : Prop := ∃ k, lo ≤ k ∧ k ≤ hi ∧ v = nI k
theorem lu_R.of {lo hi k : Nat} (h1 : lo ≤ k) (h2 : k ≤ hi) : lu_R (nI k) lo hi := ⟨k, h1, h2, rfl⟩
theorem lu_R.wide {v : Int32} {lo hi lo' hi' : Nat} (h : lu_R v lo hi) (h1 : lo' ≤ lo) (h2 : hi ≤ hi') : lu_R v lo' hi' := by
  obtain ⟨k, a, b, c⟩ := h; exact ⟨k, by omega, by omega, c⟩
theorem lu_R.le0 {v : Int32} {hi : Nat} (h : lu_R v 0 hi) (h2 : hi < 2 ^ 31) : v ≤ 0 ↔ v = 0 := by
  obtain ⟨k, a, b, rfl⟩ := h
  rw [lu_zle (by omega), show (0 : Int32) = nI 0 from rfl, nI_eq (by omega) (by decide)]
theorem lu_R.in {v : Int32} {a b : Nat} (ha : a < 2 ^ 31) (hb : b < 2 ^ 31) (h1 : nI a ≤ v) (h2 : v ≤ nI b) : lu_R v a b := by
  obtain ⟨j, hj, rfl⟩ := nI_of (x := v) (fun z => by
    rw [Int32.lt_iff_toInt_lt, Int32.toInt_zero] at z
    rw [Int32.le_iff_toInt_le, nI_toInt ha] at h1; omega)
  exact ⟨j, (nI_leI ha hj).mp h1, (nI_leI hj hb).mp h2, rfl⟩
theorem lu_min {a b : Nat} (ha : a < 2 ^ 31) (hb : b < 2 ^ 31) : lt_min (nI a) (nI b) = nI (min a b) := by
  unfold lt_min
  by_cases c : a ≤ b
  · rw [if_neg (fun z => by have := (nI_ltI hb ha).mp z; omega), Nat.min_eq_left c]
  · rw [if_pos ((nI_ltI hb ha).mpr (by omega)), Nat.min_eq_right (by omega)]
/-- a test of a truth told as 1 or 0 -/
theorem lu_q {α : Type} {c : Prop} [Decidable c] {x y : α} : (if (if c then (1 : Int32) else 0) = 0 then x else y) = if c then y else x := by
  by_cases z : c
  · rw [if_pos z, if_pos z]; rfl
  · rw [if_neg z, if_neg z]; rfl
/-! SETS -/
def la_b (k : Nat) : Int32 := 1 <<< (nI k &&& 31)
def la_sb (p : Nat → Bool) : Nat → Int32 | 0 => 0 | n + 1 => if p n then la_sb p n ||| la_b n else la_sb p n
def la_cnt (p : Nat → Bool) : Nat → Nat | 0 => 0 | n + 1 => if p n then la_cnt p n + 1 else la_cnt p n
def la_7 (a b c d e f g : Bool) : Nat → Bool := fun i => match i with | 0 => a | 1 => b | 2 => c | 3 => d | 4 => e | 5 => f | 6 => g | _ => false
theorem la_sb_congr {p q : Nat → Bool} {n : Nat} (h : ∀ i, i < n → p i = q i) : la_sb p n = la_sb q n := by
  induction n with
  | zero => rfl
  | succ n ih => rw [la_sb, la_sb, ih (fun i hi => h i (by omega)), h n (by omega)]
theorem la_cnt_congr {p q : Nat → Bool} {n : Nat} (h : ∀ i, i < n → p i = q i) : la_cnt p n = la_cnt q n := by
  induction n with
  | zero => rfl
  | succ n ih => rw [la_cnt, la_cnt, ih (fun i hi => h i (by omega)), h n (by omega)]
theorem la_cnt_le (p : Nat → Bool) (n : Nat) : la_cnt p n ≤ n := by
  induction n with
  | zero => exact Nat.le_refl _
  | succ n ih => rw [la_cnt]; split <;> omega
/-- a set of n below 8 is one of seven, none of them n and above -/
theorem la_to7 (p : Nat → Bool) : ∀ n, n ≤ 7 → ∃ a b c d e f g, (∀ i, i < n → p i = la_7 a b c d e f g i) ∧ (∀ i, n ≤ i → la_7 a b c d e f g i = false) ∧ la_sb p n = la_sb (la_7 a b c d e f g) 7 ∧ la_cnt p n = la_cnt (la_7 a b c d e f g) 7 := by
  intro n hn
  have key : ∀ q : Nat → Bool, (∀ i, n ≤ i → q i = false) → ∀ m, n ≤ m → la_sb q m = la_sb q n ∧ la_cnt q m = la_cnt q n := by
    intro q hq m hm
    induction m with
    | zero => have : n = 0 := by omega
              subst this; exact ⟨rfl, rfl⟩
    | succ m ih =>
      by_cases e : n = m + 1
      · subst e; exact ⟨rfl, rfl⟩
      · obtain ⟨i1, i2⟩ := ih (by omega)
        rw [la_sb, la_cnt, if_neg (by rw [hq m (by omega)]; decide), if_neg (by rw [hq m (by omega)]; decide)]
        exact ⟨i1, i2⟩
  let q : Nat → Bool := fun i => decide (i < n) && p i
  have e1 : ∀ i, la_7 (q 0) (q 1) (q 2) (q 3) (q 4) (q 5) (q 6) i = q i := by
    intro i
    match i with
    | 0 => rfl | 1 => rfl | 2 => rfl | 3 => rfl | 4 => rfl | 5 => rfl | 6 => rfl
    | j + 7 =>
      have : ¬ j + 7 < n := by omega
      simp [la_7, q, this]
  have e2 : ∀ i, n ≤ i → q i = false := by
    intro i hi
    have : ¬ i < n := by omega
    simp [q, this]
  have e3 : ∀ i, i < n → q i = p i := fun i hi => by simp [q, hi]
  refine ⟨q 0, q 1, q 2, q 3, q 4, q 5, q 6, ?_, ?_, ?_, ?_⟩
  · intro i hi; rw [e1, e3 i hi]
  · intro i hi; rw [e1, e2 i hi]
  · rw [la_sb_congr (fun i _ => e1 i), (key q e2 7 hn).1]
    exact (la_sb_congr e3).symm
  · rw [la_cnt_congr (fun i _ => e1 i), (key q e2 7 hn).2]
    exact (la_cnt_congr e3).symm
theorem la_dec_bit : ∀ a b c d e f g : Bool, ∀ i : Fin 7, (la_sb (la_7 a b c d e f g) 7 &&& la_b i.1 = 0) = (la_7 a b c d e f g i.1 = false) := by decide +kernel
theorem la_dec_cnt : ∀ a b c d e f g : Bool, f_J6_bitCount_0f7a4 (la_sb (la_7 a b c d e f g) 7) = some (nI (la_cnt (la_7 a b c d e f g) 7)) ∧ f_X12_bits (la_sb (la_7 a b c d e f g) 7) = some (nI (la_cnt (la_7 a b c d e f g) 7)) := by decide +kernel
theorem la_bit {p : Nat → Bool} {n g : Nat} (hn : n ≤ 7) (hg : g < n) : la_sb p n &&& (1 <<< (nI g &&& 31)) = 0 ↔ p g = false := by
  obtain ⟨a, b, c, d, e, f, q, h1, -, h3, -⟩ := la_to7 p n hn
  rw [h3, h1 g hg]
  exact Iff.of_eq (la_dec_bit a b c d e f q ⟨g, by omega⟩)
theorem la_count {p : Nat → Bool} {n : Nat} (hn : n ≤ 7) : f_J6_bitCount_0f7a4 (la_sb p n) = some (nI (la_cnt p n)) ∧ f_X12_bits (la_sb p n) = some (nI (la_cnt p n)) := by
  obtain ⟨a, b, c, d, e, f, q, h1, -, h3, h4⟩ := la_to7 p n hn
  rw [h3, h4]
  exact la_dec_cnt a b c d e f q
theorem la_dec_set : ∀ a b c d e f g : Bool, ∀ i : Fin 7, ∀ v : Bool, (la_sb (la_7 a b c d e f g) 7 &&& ((1 <<< (nI i.1 &&& 31)) ^^^ (-1)) = la_sb (fun j => if j = i.1 then false else la_7 a b c d e f g j) 7) ∧ (la_sb (la_7 a b c d e f g) 7 ||| (1 <<< (nI i.1 &&& 31)) = la_sb (fun j => if j = i.1 then true else la_7 a b c d e f g j) 7) := by decide +kernel
theorem la_ext {p q : Nat → Bool} {n : Nat} (hq : ∀ i, n ≤ i → q i = false) (hn : n ≤ 7) : (∀ i, i < n → p i = q i) → la_sb p n = la_sb q 7 := by
  intro h
  rw [la_sb_congr h]
  clear h
  have : ∀ m, n ≤ m → la_sb q m = la_sb q n := by
    intro m hm
    induction m with
    | zero => have : n = 0 := by omega
              subst this; rfl
    | succ m ih =>
      by_cases e : n = m + 1
      · subst e; rfl
      · rw [la_sb, if_neg (by rw [hq m (by omega)]; decide)]; exact ih (by omega)
  exact (this 7 hn).symm
theorem la_clr {p : Nat → Bool} {n g : Nat} (hn : n ≤ 7) (hg : g < n) : la_sb p n &&& ((1 <<< (nI g &&& 31)) ^^^ (-1)) = la_sb (fun j => if j = g then false else p j) n := by
  obtain ⟨a, b, c, d, e, f, q, h1, h2, h3, -⟩ := la_to7 p n hn
  rw [h3, (la_dec_set a b c d e f q ⟨g, by omega⟩ true).1]
  refine (la_ext (fun i hi => ?_) hn fun i hi => ?_).symm
  · show (if i = g then false else la_7 a b c d e f q i) = false
    rw [h2 i hi]; split <;> rfl
  · show (if i = g then false else p i) = if i = g then false else la_7 a b c d e f q i
    rw [h1 i hi]
theorem la_set {p : Nat → Bool} {n g : Nat} (hn : n ≤ 7) (hg : g < n) : la_sb p n ||| (1 <<< (nI g &&& 31)) = la_sb (fun j => if j = g then true else p j) n := by
  obtain ⟨a, b, c, d, e, f, q, h1, h2, h3, -⟩ := la_to7 p n hn
  rw [h3, (la_dec_set a b c d e f q ⟨g, by omega⟩ true).2]
  refine (la_ext (fun i hi => ?_) hn fun i hi => ?_).symm
  · show (if i = g then true else la_7 a b c d e f q i) = false
    rw [h2 i hi, if_neg (by omega)]
  · show (if i = g then true else p i) = if i = g then true else la_7 a b c d e f q i
    rw [h1 i hi]
