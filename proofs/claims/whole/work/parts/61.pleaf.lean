/-! PURE: the class's leaves, said of naturals -/
theorem ix2 (s i : Nat) : nI s * 2 + nI i = nI (2 * s + i) := by
  rw [show (2 : Int32) = nI 2 from rfl, pk_mul, nI_add, Nat.mul_comm]
theorem nb01 {x : Int32} (h : x = 0 ∨ x = 1) : narrow .boolean (.int x) = .int x := by
  rcases h with rfl | rfl <;> rfl
theorem s_isSector {p0 : Int32} {post : Int32 → Prop} (h0 : (p0 < 0 ∨ 192 ≤ p0) → post 0) (h1 : ¬ p0 < 0 → ¬ 192 ≤ p0 → post 1) : v_DefectDrive_isSector p0 post :=
  ⟨fun h => h0 (Or.inl h), fun h => ⟨fun g => h0 (Or.inr g), fun g => h1 h g⟩⟩
theorem s_isWord {p0 : Int32} {post : Int32 → Prop} (h0 : (p0 < 0 ∨ 2 ≤ p0) → post 0) (h1 : ¬ p0 < 0 → ¬ 2 ≤ p0 → post 1) : v_DefectDrive_isWord p0 post :=
  ⟨fun h => h0 (Or.inl h), fun h => ⟨fun g => h0 (Or.inr g), fun g => h1 h g⟩⟩
theorem s_cylinderOf {k : Nat} (hk : k < 192) {post : Int32 → Prop} (h : post (nI (k / 16))) : v_DefectDrive_cylinderOf (nI k) post := by
  have e : nI k / 16 = nI (k / 16) := pk_div (d := 16) (by omega) (by omega) (by omega)
  show post (nI k / 16)
  rw [e]
  exact h
theorem s_isSpare {k : Nat} (hk : k < 192) {post : Int32 → Prop} (h0 : ¬ (16 ≤ k ∧ 13 ≤ k % 16) → post 0) (h1 : 16 ≤ k → 13 ≤ k % 16 → post 1) : v_DefectDrive_isSpare (nI k) post := by
  refine pk_lt k 16 (fun h => h0 (by omega)) (fun h => ?_)
  have e : nI k - nI k / 16 * 16 = nI (k % 16) := pk_rem (d := 16) (by omega) (by omega) (by omega)
  rw [e]
  exact pk_lt (k % 16) 13 (fun g => h0 (by omega)) (fun g => h1 h g)
/-- what is left behind one write -/
def nl (l : Int32) : Int32 := if l = -1 then l else l - 1
theorem s_last {ofv ol od : Int32} {post : Int32 → Int32 → Int32 → Int32 → Prop} (h0 : ol = 0 → post 0 1 ol od) (h1 : ¬ ol = 0 → post 1 ofv (nl ol) (od + 1)) : v_Power_lastsForOneWrite ofv ol od post := by
  refine ⟨fun h => ⟨fun g => ?_, fun g => ?_⟩, h0⟩
  · have h2 := h1 h
    rw [nl, if_pos g] at h2
    exact h2
  · have h2 := h1 h
    rw [nl, if_neg g] at h2
    exact h2
theorem s_wordOf {sc sw sl : Nat → Int32} {s i : Nat} (hs : s < 192) (hi : i < 2) {post : Int32 → Prop} (h : post (sw (2 * s + i))) : v_Surface_wordOf sc sw sl (nI s) (nI i) post := by
  unfold v_Surface_wordOf
  rw [ix2, nI_clamp (by omega)]
  exact ⟨vp_in_nI (by omega) (by omega), h⟩
theorem s_isLost {sc sw sl : Nat → Int32} {s i : Nat} (hs : s < 192) (hi : i < 2) (hb : sl (2 * s + i) = 0 ∨ sl (2 * s + i) = 1) {post : Int32 → Prop} (h : post (sl (2 * s + i))) : v_Surface_isLost sc sw sl (nI s) (nI i) post := by
  unfold v_Surface_isLost
  rw [ix2, nI_clamp (by omega)]
  exact ⟨vp_in_nI (by omega) (by omega), nb01 hb, h⟩
theorem s_put {sc sw sl : Nat → Int32} {s i : Nat} (hs : s < 192) (hi : i < 2) {v : Int32} {post : (Nat → Int32) → (Nat → Int32) → Prop} (h : post (upd sw (2 * s + i) v) (upd sl (2 * s + i) 0)) : v_Surface_put sc sw sl (nI s) (nI i) v post := by
  unfold v_Surface_put
  rw [ix2, nI_clamp (by omega)]
  exact ⟨vp_in_nI (by omega) (by omega), vp_in_nI (by omega) (by omega), h⟩
/-- both words of a sector are 0 -/
def w2 (w : Nat → Int32) (s : Nat) : Nat → Int32 := upd (upd w (2 * s) 0) (2 * s + 1) 0
theorem s_wipe {sc sw sl : Nat → Int32} {s : Nat} (hs : s < 192) {post : (Nat → Int32) → (Nat → Int32) → Prop} (h : post (w2 sw s) (w2 sl s)) : v_Surface_wipe sc sw sl (nI s) post := by
  refine ⟨3, ?_⟩
  show vb_Surface_wipe_2 sc (nI s) post (v_Surface_wipe_2 sc (nI s) post 2) (nI 0) sw sl
  refine pk_le 2 0 (fun g => absurd g (by omega)) (fun _ => s_put hs (by omega) ?_)
  show v_Surface_wipe_2 sc (nI s) post 2 (nI 0 + 1) _ _
  rw [nI_1]
  show vb_Surface_wipe_2 sc (nI s) post (v_Surface_wipe_2 sc (nI s) post 1) (nI 1) _ _
  refine pk_le 2 1 (fun g => absurd g (by omega)) (fun _ => s_put hs (by omega) ?_)
  show v_Surface_wipe_2 sc (nI s) post 1 (nI 1 + 1) _ _
  rw [nI_1]
  show vb_Surface_wipe_2 sc (nI s) post (v_Surface_wipe_2 sc (nI s) post 0) (nI 2) _ _
  exact pk_le 2 2 (fun _ => h) (fun g => absurd g (by omega))
/-- what is lost of a word that is moved out of a sector of condition c -/
def mvl (c x : Int32) : Int32 := if c = 2 then 1 else if x = 0 then 0 else 1
theorem s_move1 {K : Int32 → (Nat → Int32) → (Nat → Int32) → Prop} {sc sw sl : Nat → Int32} {post : (Nat → Int32) → (Nat → Int32) → Prop} {f t i : Nat} (hf : f < 192) (ht : t < 192) (hi : i < 2) (h : K (nI (i + 1)) (upd sw (2 * t + i) (sw (2 * f + i))) (upd sl (2 * t + i) (mvl (sc f) (sl (2 * f + i))))) : vb_Surface_move_2 sc (nI f) (nI t) post K (nI i) sw sl := by
  refine pk_le 2 i (fun g => absurd g (by omega)) (fun _ => ?_)
  simp only [v_Surface_move_59, v_Surface_move_64]
  rw [ix2, ix2, nI_clamp (show 2 * f + i < 2 ^ 31 by omega), nI_clamp (show 2 * t + i < 2 ^ 31 by omega), nI_clamp (show f < 2 ^ 31 by omega), nI_1]
  have i1 : vp_in (nI (2 * f + i)) 384 := vp_in_nI (by omega) (by omega)
  have i2 : vp_in (nI (2 * t + i)) 384 := vp_in_nI (by omega) (by omega)
  refine ⟨i1, i2, vp_in_nI hf (by omega), fun g => ⟨i2, ?_⟩, fun g => ⟨i1, fun g2 => ⟨i2, ?_⟩, fun g2 => ⟨i2, ?_⟩⟩⟩
  · rw [mvl, if_pos g] at h
    exact h
  · rw [mvl, if_neg g, if_pos g2] at h
    exact h
  · rw [mvl, if_neg g, if_neg g2] at h
    exact h
theorem s_move {sc sw sl : Nat → Int32} {f t : Nat} (hf : f < 192) (ht : t < 192) {post : (Nat → Int32) → (Nat → Int32) → Prop} (h : post (upd (upd sw (2 * t) (sw (2 * f))) (2 * t + 1) (sw (2 * f + 1))) (upd (upd sl (2 * t) (mvl (sc f) (sl (2 * f)))) (2 * t + 1) (mvl (sc f) (sl (2 * f + 1))))) : v_Surface_move sc sw sl (nI f) (nI t) post := by
  refine ⟨3, ?_⟩
  show vb_Surface_move_2 sc (nI f) (nI t) post (v_Surface_move_2 sc (nI f) (nI t) post 2) (nI 0) sw sl
  refine s_move1 hf ht (by omega) ?_
  show vb_Surface_move_2 sc (nI f) (nI t) post (v_Surface_move_2 sc (nI f) (nI t) post 1) (nI 1) _ _
  refine s_move1 hf ht (by omega) ?_
  show vb_Surface_move_2 sc (nI f) (nI t) post (v_Surface_move_2 sc (nI f) (nI t) post 0) (nI 2) _ _
  refine pk_le 2 2 (fun _ => ?_) (fun g => absurd g (by omega))
  rw [pk_un (show 2 * f + 1 ≠ 2 * t + 0 by omega), pk_un (show 2 * f + 1 ≠ 2 * t + 0 by omega)]
  exact h
/-! the lists -/
theorem s_pairOf {av ac : Int32} {np nq : Nat} {af ag : Nat → Int32} {p0 : Int32} {post : Int32 → Prop} (h : np + nq ≤ 48) (hn : (∀ k, k < nq → af (np + k) ≠ p0) → post (-1)) (hs : ∀ k, k < nq → af (np + k) = p0 → (∀ j, j < k → af (np + j) ≠ p0) → post (nI k)) : v_Lists_pairOf av ac (nI np) (nI nq) af ag p0 post := by
  have L : ∀ n i, i ≤ nq → nq < i + n → (∀ j, j < i → af (np + j) ≠ p0) → v_Lists_pairOf_2 (nI np) (nI nq) af p0 post n (nI i) := by
    intro n
    induction n with
    | zero => intro i h1 h2; omega
    | succ n ih =>
      intro i h1 h2 hi
      show vb_Lists_pairOf_2 _ _ _ _ _ _ _
      refine pk_le nq i (fun g => ?_) (fun g => ⟨?_, ?_⟩)
      · exact hn (fun k hk => hi k (by omega))
      · exact pk_in (np + i) 48 (by omega) (nI_add np i)
      · rw [nI_add, nI_clamp (by omega)]
        refine ⟨fun e => ?_, fun e => hs i g e hi⟩
        rw [nI_1]
        exact ih (i + 1) (by omega) (by omega) (lt_s hi e)
  exact ⟨nq + 1, L (nq + 1) 0 (by omega) (by omega) (fun j hj => by omega)⟩
/-- a list of the class, read: version, primaries, pairs -/
def lsR (v p q : Int32) (f g : Nat → Int32) (ver np nq : Nat) (P F S : Nat → Nat) : Prop := v = nI ver ∧ p = nI np ∧ q = nI nq ∧ (∀ k, k < np → f k = nI (P k)) ∧ ∀ k, k < nq → f (np + k) = nI (F k) ∧ g (np + k) = nI (S k)
theorem s_pairOfR {v c p q : Int32} {f g : Nat → Int32} {ver np nq : Nat} {P F S : Nat → Nat} (r : lsR v p q f g ver np nq P F S) (ok : okL np nq P F S) {s : Nat} (hs : s < 192) {post : Int32 → Prop} (h : post (oI (lf F nq s))) : v_Lists_pairOf v c p q f g (nI s) post := by
  obtain ⟨rfl, rfl, rfl, r1, r2⟩ := r
  have hF : ∀ k, k < nq → F k < 192 := fun k hk => (ok.2.2.2.1 k hk).1
  refine s_pairOf ok.1 (fun hn => ?_) (fun k hk e _ => ?_)
  · have e : lf F nq s = none := lf_none.mpr (fun k hk e => hn k hk (by rw [(r2 k hk).1, e]))
    rw [e] at h
    exact h
  · rw [(r2 k hk).1, nI_eq (by have := hF k hk; omega) (by omega)] at e
    have e2 := lf_at ok.2.2.2.2.2.1 hk e
    rw [e2] at h
    exact h
theorem oI_ne {o : Option Nat} (h : ∀ k, o = some k → k < 2 ^ 31) : oI o = -1 ↔ o = none := by
  cases o with
  | none => simp [oI]
  | some k =>
    constructor
    · intro e
      have h1 := nI_pos (h k rfl)
      rw [show nI k = -1 from e] at h1
      exact absurd (by decide) h1
    · intro e; cases e
