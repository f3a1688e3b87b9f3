/-! THE MATHEMATICS OF THE MAP: primaries P (n of them), pairs F -> S (q of them); no machine in this part -/
def pr (P : Nat → Nat) : Nat → Nat → Bool
  | 0, _ => false
  | n + 1, s => pr P n s || decide (P n = s)
def lg (P : Nat → Nat) (n s : Nat) : Bool := decide (16 ≤ s) && (decide (s % 16 < 13) && !(pr P n s))
def ct (P : Nat → Nat) (n : Nat) : Nat → Nat
  | 0 => 0
  | s + 1 => ct P n s + (if lg P n s = true then 1 else 0)
def lf (F : Nat → Nat) : Nat → Nat → Option Nat
  | 0, _ => none
  | n + 1, s => if F n = s then some n else lf F n s
def oI : Option Nat → Int32
  | none => -1
  | some k => nI k
def pl (F S : Nat → Nat) (n s : Nat) : Nat := match lf F n s with
  | none => s
  | some k => S k
theorem pr_iff (P : Nat → Nat) (n s : Nat) : pr P n s = true ↔ ∃ k, k < n ∧ P k = s := by
  induction n with
  | zero => simp [pr]
  | succ n ih =>
    simp only [pr, Bool.or_eq_true, ih, decide_eq_true_eq]
    constructor
    · rintro (⟨k, h1, h2⟩ | h)
      · exact ⟨k, by omega, h2⟩
      · exact ⟨n, by omega, h⟩
    · rintro ⟨k, h1, h2⟩
      rcases Nat.lt_or_ge k n with h | h
      · exact Or.inl ⟨k, h, h2⟩
      · exact Or.inr (by rw [show n = k by omega]; exact h2)
theorem pr_no (P : Nat → Nat) (n s : Nat) : pr P n s = false ↔ ∀ k, k < n → P k ≠ s := by
  rw [← Bool.not_eq_true, pr_iff]
  constructor
  · intro h k hk e
    exact h ⟨k, hk, e⟩
  · rintro h ⟨k, hk, e⟩
    exact h k hk e
theorem lg_iff (P : Nat → Nat) (n s : Nat) : lg P n s = true ↔ 16 ≤ s ∧ s % 16 < 13 ∧ pr P n s = false := by
  simp [lg]
theorem lf_some {F : Nat → Nat} {n s k : Nat} (h : lf F n s = some k) : k < n ∧ F k = s := by
  induction n with
  | zero => simp [lf] at h
  | succ n ih =>
    simp only [lf] at h
    by_cases e : F n = s
    · rw [if_pos e] at h
      cases h
      exact ⟨by omega, e⟩
    · rw [if_neg e] at h
      obtain ⟨h1, h2⟩ := ih h
      exact ⟨by omega, h2⟩
theorem lf_none {F : Nat → Nat} {n s : Nat} : lf F n s = none ↔ ∀ k, k < n → F k ≠ s := by
  induction n with
  | zero => simp [lf]
  | succ n ih =>
    simp only [lf]
    by_cases e : F n = s
    · rw [if_pos e]
      constructor
      · intro h; cases h
      · intro h; exact absurd e (h n (by omega))
    · rw [if_neg e, ih]
      constructor
      · intro h k hk
        rcases Nat.lt_or_ge k n with g | g
        · exact h k g
        · rw [show k = n by omega]; exact e
      · intro h k hk
        exact h k (by omega)
/-- in a row without doubles the place is the only one -/
theorem lf_at {F : Nat → Nat} {n s k : Nat} (hi : ∀ a b, a < n → b < n → F a = F b → a = b) (hk : k < n) (e : F k = s) : lf F n s = some k := by
  cases h : lf F n s with
  | none => exact absurd e (lf_none.mp h k hk)
  | some j =>
    obtain ⟨h1, h2⟩ := lf_some h
    rw [hi j k h1 hk (h2.trans e.symm)]
theorem ct_step (P : Nat → Nat) (n s : Nat) : ct P n s ≤ ct P n (s + 1) := by
  simp only [ct]
  omega
theorem ct_mono (P : Nat → Nat) (n : Nat) {s t : Nat} (h : s ≤ t) : ct P n s ≤ ct P n t := by
  induction h with
  | refl => exact Nat.le_refl _
  | step _ ih => exact Nat.le_trans ih (ct_step P n _)
theorem ct_lt (P : Nat → Nat) (n : Nat) {s t : Nat} (h : s < t) (hs : lg P n s = true) : ct P n s < ct P n t := by
  have h1 : ct P n (s + 1) = ct P n s + 1 := by simp only [ct, if_pos hs]
  have h2 := ct_mono P n (show s + 1 ≤ t from h)
  omega
theorem ct_inj (P : Nat → Nat) (n : Nat) {s t : Nat} (hs : lg P n s = true) (ht : lg P n t = true) (h : ct P n s = ct P n t) : s = t := by
  rcases Nat.lt_trichotomy s t with g | g | g
  · have := ct_lt P n g hs
    omega
  · exact g
  · have := ct_lt P n g ht
    omega
theorem ct_surj (P : Nat → Nat) (n l : Nat) : ∀ t, l < ct P n t → ∃ s, s < t ∧ lg P n s = true ∧ ct P n s = l := by
  intro t
  induction t with
  | zero => intro h; simp [ct] at h
  | succ t ih =>
    intro h
    by_cases g : l < ct P n t
    · obtain ⟨s, h1, h2, h3⟩ := ih g
      exact ⟨s, by omega, h2, h3⟩
    · by_cases e : lg P n t = true
      · simp only [ct, if_pos e] at h
        exact ⟨t, by omega, e, by omega⟩
      · simp only [ct, if_neg e] at h
        omega
/-- how many data sectors that are no spare ones lie below -/
def cn : Nat → Nat
  | 0 => 0
  | s + 1 => cn s + (if 16 ≤ s ∧ s % 16 < 13 then 1 else 0)
theorem ct_cn (P : Nat → Nat) (n s : Nat) : ct P n s ≤ cn s := by
  induction s with
  | zero => simp [ct, cn]
  | succ s ih =>
    simp only [ct, cn]
    by_cases h : lg P n s = true
    · have h2 := (lg_iff P n s).mp h
      rw [if_pos h, if_pos ⟨h2.1, h2.2.1⟩]
      omega
    · rw [if_neg h]
      omega
theorem cn_lt : ∀ s, s < 192 → (16 ≤ s ∧ s % 16 < 13) → cn s < 143 := by decide +kernel
theorem cn_192 : cn 192 = 143 := by decide +kernel
theorem ct_143 (P : Nat → Nat) (n : Nat) {s : Nat} (h : s < 192) (hs : lg P n s = true) : ct P n s < 143 := by
  have h2 := (lg_iff P n s).mp hs
  have h3 := cn_lt s h ⟨h2.1, h2.2.1⟩
  have h4 := ct_cn P n s
  omega
theorem ct_le_143 (P : Nat → Nat) (n : Nat) {s : Nat} (h : s ≤ 192) : ct P n s ≤ 143 := by
  have h4 := ct_cn P n 192
  have h5 := ct_mono P n h
  rw [cn_192] at h4
  omega
theorem ct_16 (P : Nat → Nat) (n : Nat) : ∀ s, s ≤ 16 → ct P n s = 0 := by
  intro s
  induction s with
  | zero => intro _; rfl
  | succ s ih =>
    intro h
    have h2 : ¬ lg P n s = true := fun q => by
      have := (lg_iff P n s).mp q
      omega
    simp only [ct, if_neg h2, ih (by omega)]
/-- the lists that may be in force: OK np nq P F S -/
def okL (np nq : Nat) (P F S : Nat → Nat) : Prop :=
  np + nq ≤ 48 ∧ nq ≤ 20 ∧ (∀ k, k < np → 16 ≤ P k ∧ P k < 192) ∧ (∀ k, k < nq → F k < 192 ∧ lg P np (F k) = true) ∧ (∀ k, k < nq → 16 ≤ S k ∧ S k < 192 ∧ 13 ≤ S k % 16 ∧ pr P np (S k) = false) ∧
  (∀ a b, a < nq → b < nq → F a = F b → a = b) ∧ (∀ a b, a < nq → b < nq → S a = S b → a = b)
theorem okL_0 : okL 0 0 (fun _ => 0) (fun _ => 0) (fun _ => 0) := by
  refine ⟨by omega, by omega, ?_, ?_, ?_, ?_, ?_⟩ <;> intros <;> omega
theorem pl_some {F S : Nat → Nat} {n s k : Nat} (h : lf F n s = some k) : pl F S n s = S k := by simp [pl, h]
theorem pl_none {F S : Nat → Nat} {n s : Nat} (h : lf F n s = none) : pl F S n s = s := by simp [pl, h]
theorem pl_data {np nq : Nat} {P F S : Nat → Nat} (ok : okL np nq P F S) {s : Nat} (h : s < 192) (hs : lg P np s = true) : 16 ≤ pl F S nq s ∧ pl F S nq s < 192 := by
  cases e : lf F nq s with
  | none => rw [pl_none e]; exact ⟨((lg_iff _ _ _).mp hs).1, h⟩
  | some k =>
    rw [pl_some e]
    obtain ⟨h1, -⟩ := lf_some e
    exact ⟨(ok.2.2.2.2.1 k h1).1, (ok.2.2.2.2.1 k h1).2.1⟩
theorem pl_inj {np nq : Nat} {P F S : Nat → Nat} (ok : okL np nq P F S) {s t : Nat} (hs : lg P np s = true) (ht : lg P np t = true) (e : pl F S nq s = pl F S nq t) : s = t := by
  obtain ⟨-, -, -, hF, hS, iF, iS⟩ := ok
  have ls := ((lg_iff _ _ _).mp hs).2.1
  have lt := ((lg_iff _ _ _).mp ht).2.1
  cases e1 : lf F nq s with
  | none =>
    rw [pl_none e1] at e
    cases e2 : lf F nq t with
    | none => rw [pl_none e2] at e; exact e
    | some k =>
      rw [pl_some e2] at e
      have h1 := (hS k (lf_some e2).1).2.2.1
      omega
  | some j =>
    rw [pl_some e1] at e
    cases e2 : lf F nq t with
    | none =>
      rw [pl_none e2] at e
      have h1 := (hS j (lf_some e1).1).2.2.1
      omega
    | some k =>
      rw [pl_some e2] at e
      have h1 := lf_some e1
      have h2 := lf_some e2
      have h3 := iS j k h1.1 h2.1 e
      subst h3
      exact h1.2.symm.trans h2.2
