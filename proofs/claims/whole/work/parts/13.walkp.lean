/-! walks, and the search for a shortest one -/
def wk (B : Nat → Nat → Bool) : Nat → Nat → Nat → Prop
  | 0, a, b => a = b
  | k + 1, a, b => ∃ c, wk B k a c ∧ B c b = true
/-- z is the length of a shortest walk of at least one arc, or -1 -/
def shB (B : Nat → Nat → Bool) (u v : Nat) (z : Int) : Prop :=
  (z = -1 ∧ ∀ k, 1 ≤ k → ¬ wk B k u v) ∨ ∃ k : Nat, 1 ≤ k ∧ k ≤ 160 ∧ z = (k : Int) ∧ wk B k u v ∧ ∀ j, 1 ≤ j → j < k → ¬ wk B j u v
theorem shB_rg {B : Nat → Nat → Bool} {u v : Nat} {z : Int} (h : shB B u v z) : -1 ≤ z ∧ z ≤ 160 := by
  rcases h with ⟨h, -⟩ | ⟨k, h1, h2, h3, -⟩ <;> omega
def bfs (B : Nat → Nat → Bool) (u v : Nat) (q r : Nat → Int) (S : Nat → Nat → Bool) (i e : Int) : Prop :=
  (0 ≤ i ∧ i ≤ e ∧ 1 ≤ e ∧ e ≤ 160) ∧
  (∀ p, S 0 p = true → p < 160 ∧ ∃ j : Nat, (j : Int) < e ∧ q j = (p : Int)) ∧
  (∀ j : Nat, (j : Int) < e → ∃ p : Nat, p < 160 ∧ q j = (p : Int) ∧ S 0 p = true ∧ 0 ≤ r j ∧ r j ≤ j ∧ wk B (r j).toNat u p) ∧
  cN (S 0) 192 = e.toNat ∧
  (q 0 = (u : Int) ∧ r 0 = 0) ∧
  (∀ j j' : Nat, j ≤ j' → (j' : Int) < e → r j ≤ r j') ∧
  (∀ j : Nat, (j : Int) < e → i < e → r j ≤ r i.toNat + 1) ∧
  (∀ j : Nat, (j : Int) < i → ∀ p : Nat, q j = (p : Int) → B p v = false ∧ ∀ y, B p y = true → ∃ j' : Nat, (j' : Int) < e ∧ q j' = (y : Int) ∧ r j' ≤ r j + 1)
theorem bfs_all {B : Nat → Nat → Bool} {u v : Nat} {q r : Nat → Int} {S : Nat → Nat → Bool} {i e : Int} (h : bfs B u v q r S i e) : ∀ (k p : Nat), wk B k u p → (∃ j : Nat, (j : Int) < e ∧ q j = (p : Int) ∧ r j ≤ k) ∨ ∃ j : Nat, i ≤ j ∧ (j : Int) < e ∧ r j + 1 ≤ k := by
  obtain ⟨h1, h2, h3, h4, h5, h6, h7, h8⟩ := h
  intro k
  induction k with
  | zero => intro p hp; exact Or.inl ⟨0, by omega, by rw [← (show u = p from hp)]; exact h5.1, by rw [h5.2]; omega⟩
  | succ k ih =>
    rintro p ⟨c, hc, hb⟩
    rcases ih c hc with ⟨j, g1, g2, g3⟩ | ⟨j, g1, g2, g3⟩
    · by_cases z : (j : Int) < i
      · obtain ⟨j', f1, f2, f3⟩ := (h8 j z c g2).2 p hb
        exact Or.inl ⟨j', f1, f2, by omega⟩
      · exact Or.inr ⟨j, by omega, g1, by omega⟩
    · exact Or.inr ⟨j, g1, g2, by omega⟩
theorem bfs_none {B : Nat → Nat → Bool} {u v : Nat} {q r : Nat → Int} {S : Nat → Nat → Bool} {i e : Int} (h : bfs B u v q r S i e) (hi : e ≤ i) : shB B u v (-1) := by
  refine Or.inl ⟨rfl, fun k hk hw => ?_⟩
  obtain ⟨k, rfl⟩ : ∃ k', k = k' + 1 := ⟨k - 1, by omega⟩
  obtain ⟨c, hc, hb⟩ := hw
  rcases bfs_all h k c hc with ⟨j, g1, g2, g3⟩ | ⟨j, g1, g2, g3⟩
  · have := (h.2.2.2.2.2.2.2 j (by omega) c g2).1
    rw [this] at hb; cases hb
  · omega
theorem bfs_found {B : Nat → Nat → Bool} {u v : Nat} {q r : Nat → Int} {S : Nat → Nat → Bool} {i e : Int} (h : bfs B u v q r S i e) (hi : i < e) (hb : B (q i.toNat).toNat v = true) : shB B u v (r i.toNat + 1) := by
  have h0 := h
  obtain ⟨h1, h2, h3, h4, h5, h6, h7, h8⟩ := h
  obtain ⟨p, p1, p2, p3, p4, p5, p6⟩ := h3 i.toNat (by omega)
  rw [p2, Int.toNat_natCast] at hb
  refine Or.inr ⟨(r i.toNat).toNat + 1, by omega, by omega, by omega, ⟨p, p6, hb⟩, fun j hj1 hj2 hw => ?_⟩
  obtain ⟨k, rfl⟩ : ∃ k', j = k' + 1 := ⟨j - 1, by omega⟩
  obtain ⟨c, hc, hbc⟩ := hw
  rcases bfs_all h0 k c hc with ⟨a, g1, g2, g3⟩ | ⟨a, g1, g2, g3⟩
  · by_cases z : (a : Int) < i
    · have := (h8 a z c g2).1
      rw [this] at hbc; cases hbc
    · have := h6 i.toNat a (by omega) g1
      omega
  · have := h6 i.toNat a (by omega) g2
    omega
theorem bfs_0 {B : Nat → Nat → Bool} {u v : Nat} {q r : Nat → Int} (hu : u < 160) : bfs B u v (va_up q 0 (u : Int)) (va_up r 0 0) (bP (fun _ _ => false) 0 u true) 0 1 := by
  have hS : ∀ p, bP (fun _ _ => false) 0 u true 0 p = true ↔ p = u := fun p => by unfold bP; by_cases z : p = u <;> simp [z]
  refine ⟨by omega, fun p hp => ?_, fun j hj => ?_, ?_, ⟨rfl, rfl⟩, fun j j' h1 h2 => ?_, fun j h1 h2 => ?_, fun j h1 => by omega⟩
  · have := (hS p).mp hp; subst this
    exact ⟨hu, 0, by omega, rfl⟩
  · have : j = 0 := by omega
    subst this
    exact ⟨u, hu, rfl, (hS u).mpr rfl, by show (0 : Int) ≤ 0; omega, by show (0 : Int) ≤ 0; omega, rfl⟩
  · have e1 : cN (bP (fun _ _ => false) 0 u true 0) 192 = cN (fun j => j == u) 192 := cN_congr 192 (fun j _ => by unfold bP; by_cases z : j = u <;> simp [z])
    rw [e1]
    have e2 : ∀ k, cN (fun j => j == u) k = if u < k then 1 else 0 := by
      intro k
      induction k with
      | zero => rfl
      | succ k ih =>
        rw [cN_s, ih]
        by_cases z : k = u
        · subst z; simp
        · simp only [beq_iff_eq, z, if_false, Nat.add_zero]
          by_cases y : u < k
          · rw [if_pos y, if_pos (by omega)]
          · rw [if_neg y, if_neg (by omega)]
    rw [e2, if_pos (by omega)]
    rfl
  · have : j' = 0 := by omega
    have : j = 0 := by omega
    subst j j'
    exact Int.le_refl _
  · have : j = 0 := by omega
    subst this
    show (0 : Int) ≤ 0 + 1
    omega
theorem cN_or {f g : Nat → Bool} : ∀ n, (∀ j, j < n → f j = true → g j = false) → cN (fun j => f j || g j) n = cN f n + cN g n
  | 0, _ => rfl
  | n + 1, h => by
    rw [cN_s, cN_s, cN_s, cN_or n (fun j hj => h j (by omega))]
    cases hf : f n with
    | true => simp [h n (by omega) hf]; omega
    | false => cases hg : g n <;> simp [hg] <;> omega
theorem bfs_cnt {B S Fr : Nat → Nat → Bool} {p : Nat} : cN (uS S B p 3 0) 192 = cN (S 0) 192 + cN (uF Fr B S p 3 0) 192 := by
  rw [← cN_or 192 (f := S 0) (g := uF Fr B S p 3 0)]
  · refine cN_congr 192 (fun j hj => ?_)
    unfold uS uF
    rw [if_pos ⟨rfl, by omega⟩, if_pos ⟨rfl, by omega⟩]
    cases S 0 j <;> simp
  · intro j hj hs
    unfold uF
    rw [if_pos ⟨rfl, by omega⟩, hs]; simp
/-- one more node done: what it leads to, and wasn't seen, stands behind the others -/
theorem bfs_room {B S Fr : Nat → Nat → Bool} {u v p : Nat} {q r : Nat → Int} {i e : Int} (hw : wfB B) (h : bfs B u v q r S i e) : e + (cN (uF Fr B S p 3 0) 192 : Int) ≤ 160 := by
  have h1 := bfs_cnt (B := B) (S := S) (Fr := Fr) (p := p)
  have h2 : cN (uS S B p 3 0) 192 ≤ 160 := cN_160 (fun y hy => by
    unfold uS at hy
    by_cases z : y < 64 * 3
    · rw [if_pos ⟨rfl, z⟩] at hy
      cases hs : S 0 y with
      | true => exact (h.2.1 y hs).1
      | false => rw [hs, Bool.false_or] at hy; exact (hw _ _ hy).2
    · rw [if_neg (by omega)] at hy; exact (h.2.1 y hy).1)
  have h3 := h.2.2.2.1
  have h4 := h.1
  omega
theorem bfs_step {B S Fr : Nat → Nat → Bool} {u v : Nat} {q r q' r' : Nat → Int} {i e : Int} (hw : wfB B) (h : bfs B u v q r S i e) (hi : i < e) (hnb : B (q i.toNat).toNat v = false)
    (hq : lsd (uF Fr B S (q i.toNat).toNat 3 0) 192 e.toNat q q') (hr1 : ∀ j : Nat, (j : Int) < e → r' j = r j) (hr2 : ∀ j : Nat, e ≤ j → (j : Int) < e + (cN (uF Fr B S (q i.toNat).toNat 3 0) 192 : Int) → r' j = r i.toNat + 1) :
    bfs B u v q' r' (uS S B (q i.toNat).toNat 3) (i + 1) (e + (cN (uF Fr B S (q i.toNat).toNat 3 0) 192 : Int)) := by
  have hroom := bfs_room (Fr := Fr) (p := (q i.toNat).toNat) hw h
  have hcnt := bfs_cnt (B := B) (S := S) (Fr := Fr) (p := (q i.toNat).toNat)
  obtain ⟨h1, h2, h3, h4, h5, h6, h7, h8⟩ := h
  obtain ⟨p, p1, p2, p3, p4, p5, p6⟩ := h3 i.toNat (by omega)
  rw [p2, Int.toNat_natCast] at hnb hq hr2 hroom hcnt ⊢
  have hg : ∀ y, y < 192 → uF Fr B S p 3 0 y = (B p y && !(S 0 y)) := fun y hy => by unfold uF; rw [if_pos ⟨rfl, by omega⟩]
  have hS : ∀ y, uS S B p 3 0 y = true ↔ (S 0 y = true ∨ B p y = true) := fun y => by
    unfold uS
    by_cases z : y < 64 * 3
    · rw [if_pos ⟨rfl, z⟩]; simp
    · rw [if_neg (by omega)]
      constructor
      · exact Or.inl
      · rintro (h | h)
        · exact h
        · have := (hw _ _ h).2; omega
  have hq1 : ∀ j : Nat, (j : Int) < e → q' j = q j := fun j hj => hq.2 j (Or.inl (by omega))
  have hnew : ∀ y, B p y = true → S 0 y = false → ∃ j : Nat, e ≤ j ∧ (j : Int) < e + (cN (uF Fr B S p 3 0) 192 : Int) ∧ q' j = (y : Int) := fun y hy hs => by
    have hy2 := (hw _ _ hy).2
    have hgy : uF Fr B S p 3 0 y = true := by rw [hg y (by omega), hy, hs]; rfl
    have hst := cN_strict (show y < 192 by omega) hgy
    exact ⟨e.toNat + cN (uF Fr B S p 3 0) y, by omega, by omega, hq.1 y (by omega) hgy⟩
  have hat : ∀ j : Nat, e ≤ j → (j : Int) < e + (cN (uF Fr B S p 3 0) 192 : Int) → ∃ y, y < 160 ∧ B p y = true ∧ q' j = (y : Int) := fun j hj1 hj2 => by
    obtain ⟨y, y1, y2, y3, y4⟩ := lsd_at hq (i := j - e.toNat) (by omega)
    rw [show e.toNat + (j - e.toNat) = j by omega] at y4
    rw [hg y y1] at y2
    simp at y2
    exact ⟨y, (hw _ _ y2.1).2, y2.1, y4⟩
  refine ⟨by omega, fun y hy => ?_, fun j hj => ?_, by omega, ⟨by rw [hq1 0 (by omega)]; exact h5.1, by rw [hr1 0 (by omega)]; exact h5.2⟩, fun j j' hj hj' => ?_, fun j hj hlt => ?_, fun j hj x hx => ?_⟩
  · rcases (hS y).mp hy with hs | hb
    · obtain ⟨a, j, j1, j2⟩ := h2 y hs
      exact ⟨a, j, by omega, by rw [hq1 j j1]; exact j2⟩
    · cases hs : S 0 y with
      | true =>
        obtain ⟨a, j, j1, j2⟩ := h2 y hs
        exact ⟨a, j, by omega, by rw [hq1 j j1]; exact j2⟩
      | false =>
        obtain ⟨j, j1, j2, j3⟩ := hnew y hb hs
        exact ⟨(hw _ _ hb).2, j, j2, j3⟩
  · by_cases z : (j : Int) < e
    · obtain ⟨x, x1, x2, x3, x4, x5, x6⟩ := h3 j z
      exact ⟨x, x1, by rw [hq1 j z]; exact x2, (hS x).mpr (Or.inl x3), by rw [hr1 j z]; exact x4, by rw [hr1 j z]; exact x5, by rw [hr1 j z]; exact x6⟩
    · obtain ⟨y, y1, y2, y3⟩ := hat j (by omega) hj
      have hrr := hr2 j (by omega) hj
      refine ⟨y, y1, y3, (hS y).mpr (Or.inr y2), by omega, by omega, ?_⟩
      rw [hrr, show (r i.toNat + 1).toNat = (r i.toNat).toNat + 1 by omega]
      exact ⟨p, p6, y2⟩
  · by_cases z : (j' : Int) < e
    · rw [hr1 j (by omega), hr1 j' z]; exact h6 j j' hj z
    · rw [hr2 j' (by omega) hj']
      by_cases z2 : (j : Int) < e
      · rw [hr1 j z2]; exact h7 j z2 hi
      · rw [hr2 j (by omega) (by omega)]; exact Int.le_refl _
  · have hle : r i.toNat ≤ r' (i + 1).toNat := by
      by_cases z : i + 1 < e
      · rw [hr1 (i + 1).toNat (by omega)]; exact h6 _ _ (by omega) (by omega)
      · rw [hr2 (i + 1).toNat (by omega) (by omega)]; omega
    by_cases z : (j : Int) < e
    · rw [hr1 j z]; have := h7 j z hi; omega
    · rw [hr2 j (by omega) hj]; omega
  · by_cases z : (j : Int) < i
    · rw [hq1 j (by omega)] at hx
      obtain ⟨g1, g2⟩ := h8 j z x hx
      refine ⟨g1, fun y hy => ?_⟩
      obtain ⟨j', f1, f2, f3⟩ := g2 y hy
      exact ⟨j', by omega, by rw [hq1 j' f1]; exact f2, by rw [hr1 j' f1, hr1 j (by omega)]; exact f3⟩
    · have hji : j = i.toNat := by omega
      subst hji
      rw [hq1 _ (by omega), p2] at hx
      have hxp : x = p := by omega
      subst hxp
      refine ⟨hnb, fun y hy => ?_⟩
      rw [hr1 i.toNat (by omega)]
      cases hs : S 0 y with
      | true =>
        obtain ⟨a, j', j1, j2⟩ := h2 y hs
        exact ⟨j', by omega, by rw [hq1 j' j1]; exact j2, by rw [hr1 j' j1]; exact h7 j' j1 hi⟩
      | false =>
        obtain ⟨j', j1, j2, j3⟩ := hnew y hy hs
        exact ⟨j', j2, j3, by rw [hr2 j' j1 j2]; exact Int.le_refl _⟩
