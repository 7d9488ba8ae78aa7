/-! pure part, 1: what a function brings about; loops; sums -/
def wp {α : Type} (o : Option α) (Q : α → Prop) : Prop := ∃ a, o = some a ∧ Q a
theorem wp_s {α : Type} {a : α} {Q : α → Prop} (h : Q a) : wp (some a) Q := ⟨a, rfl, h⟩
theorem wp_g {β : Type} {c : Prop} [Decidable c] {o : Option β} {Q : β → Prop} (hc : c) (h : wp o Q) : wp (xgd c o) Q := by rw [xgd_t hc]; exact h
theorem wp_l {α β : Type} {e : α} {f : α → Option β} {Q : β → Prop} (h : ∀ x, x = e → wp (f x) Q) : wp (xlet e f) Q := h e rfl
theorem wp_L {α β : Type} {e : α} {f : α → Option β} {Q : β → Prop} (h : wp (f e) Q) : wp (xlet e f) Q := h
theorem wp_i {β : Type} {c : Prop} [Decidable c] {a b : Option β} {Q : β → Prop} (ht : c → wp a Q) (hf : ¬ c → wp b Q) : wp (if c then a else b) Q := by
  by_cases hc : c
  · rw [if_pos hc]; exact ht hc
  · rw [if_neg hc]; exact hf hc
theorem wp_t {β : Type} {c : Prop} [Decidable c] {a b : Option β} {Q : β → Prop} (hc : c) (h : wp a Q) : wp (if c then a else b) Q := by rw [if_pos hc]; exact h
theorem wp_f {β : Type} {c : Prop} [Decidable c] {a b : Option β} {Q : β → Prop} (hc : ¬ c) (h : wp b Q) : wp (if c then a else b) Q := by rw [if_neg hc]; exact h
theorem wp_b {β : Type} {o : Option (Int × uS)} {f : Int → uS → Option β} {R : Int × uS → Prop} {Q : β → Prop} (h : wp o R) (k : ∀ r u, R (r, u) → wp (f r u) Q) : wp (xbd o f) Q := by
  obtain ⟨⟨r, u⟩, rfl, h2⟩ := h
  exact k r u h2
theorem wp_e {β : Type} {o : Option (Int × uS)} {f : Int → uS → Option β} {r : Int} {u : uS} {Q : β → Prop} (h : o = some (r, u)) (k : wp (f r u) Q) : wp (xbd o f) Q := by rw [h]; exact k
theorem wp_w {α : Type} {o : Option α} {R Q : α → Prop} (h : wp o R) (k : ∀ a, R a → Q a) : wp o Q := by
  obtain ⟨a, h1, h2⟩ := h
  exact ⟨a, h1, k a h2⟩
theorem wp_2 {o : Option (Int × uS)} {R Q : Int × uS → Prop} (h : wp o R) (k : ∀ r u, R (r, u) → Q (r, u)) : wp o Q := wp_w h (fun a ha => k a.1 a.2 ha)
theorem wp_bt {β : Type} {o : Option (Nat × Int × uS)} {f : Int → uS → Option β} {x : Nat → uS → Option β} {R : Nat × Int × uS → Prop} {Q : β → Prop} (h : wp o R) (k : ∀ r u, R (0, r, u) → wp (f r u) Q) (kx : ∀ g r u, g ≠ 0 → R (g, r, u) → wp (x g u) Q) : wp (xbt o f x) Q := by
  obtain ⟨⟨g, r, u⟩, rfl, h2⟩ := h
  by_cases hg : g = 0
  · subst hg; exact k r u h2
  · show wp (if g = 0 then f r u else x g u) Q
    rw [if_neg hg]; exact kx g r u hg h2
theorem wp_bt0 {β : Type} {o : Option (Nat × Int × uS)} {f : Int → uS → Option β} {x : Nat → uS → Option β} {r : Int} {u : uS} {Q : β → Prop} (h : o = some (0, r, u)) (k : wp (f r u) Q) : wp (xbt o f x) Q := by rw [h]; exact k
theorem wp_btn {β : Type} {o : Option (Nat × Int × uS)} {f : Int → uS → Option β} {x : Nat → uS → Option β} {g : Nat} {r : Int} {u : uS} {Q : β → Prop} (h : o = some (g, r, u)) (hg : g ≠ 0) (k : wp (x g u) Q) : wp (xbt o f x) Q := by
  rw [h]
  show wp (if g = 0 then f r u else x g u) Q
  rw [if_neg hg]; exact k
/-- what it brings about, as an equation -/
theorem wp_eq {α : Type} {o : Option α} {a : α} (h : wp o (fun b => b = a)) : o = some a := by
  obtain ⟨b, h1, h2⟩ := h
  rw [h1, h2]
theorem eq_wp {α : Type} {o : Option α} {a : α} {Q : α → Prop} (h : o = some a) (hq : Q a) : wp o Q := ⟨a, h, hq⟩
/-! loops: an invariant and a measure -/
theorem wl1 {A β : Type} {F : (A → Option β) → A → Option β} {Q : β → Prop} (I : A → Prop) (μ : A → Nat) (hF : ∀ go a, I a → (∀ a', I a' → μ a' < μ a → wp (go a') Q) → wp (F go a) Q) : ∀ fuel a, I a → μ a < fuel → wp (xl1 F fuel a) Q := by
  intro fuel
  induction fuel with
  | zero => intro a _ h; omega
  | succ n ih => intro a hI hm; exact hF _ a hI (fun a' h1 h2 => ih a' h1 (by omega))
theorem wl2 {A B β : Type} {F : (A → B → Option β) → A → B → Option β} {Q : β → Prop} (I : A → B → Prop) (μ : A → B → Nat) (hF : ∀ go a b, I a b → (∀ a' b', I a' b' → μ a' b' < μ a b → wp (go a' b') Q) → wp (F go a b) Q) : ∀ fuel a b, I a b → μ a b < fuel → wp (xl2 F fuel a b) Q := by
  intro fuel
  induction fuel with
  | zero => intro a b _ h; omega
  | succ n ih => intro a b hI hm; exact hF _ a b hI (fun a' b' h1 h2 => ih a' b' h1 (by omega))
theorem wl3 {A B C β : Type} {F : (A → B → C → Option β) → A → B → C → Option β} {Q : β → Prop} (I : A → B → C → Prop) (μ : A → B → C → Nat) (hF : ∀ go a b c, I a b c → (∀ a' b' c', I a' b' c' → μ a' b' c' < μ a b c → wp (go a' b' c') Q) → wp (F go a b c) Q) : ∀ fuel a b c, I a b c → μ a b c < fuel → wp (xl3 F fuel a b c) Q := by
  intro fuel
  induction fuel with
  | zero => intro a b c _ h; omega
  | succ n ih => intro a b c hI hm; exact hF _ a b c hI (fun a' b' c' h1 h2 => ih a' b' c' h1 (by omega))
theorem wl4 {A B C D β : Type} {F : (A → B → C → D → Option β) → A → B → C → D → Option β} {Q : β → Prop} (I : A → B → C → D → Prop) (μ : A → B → C → D → Nat) (hF : ∀ go a b c d, I a b c d → (∀ a' b' c' d', I a' b' c' d' → μ a' b' c' d' < μ a b c d → wp (go a' b' c' d') Q) → wp (F go a b c d) Q) : ∀ fuel a b c d, I a b c d → μ a b c d < fuel → wp (xl4 F fuel a b c d) Q := by
  intro fuel
  induction fuel with
  | zero => intro a b c d _ h; omega
  | succ n ih => intro a b c d hI hm; exact hF _ a b c d hI (fun a' b' c' d' h1 h2 => ih a' b' c' d' h1 (by omega))
theorem FU_l {n : Nat} (h : n < 20000) : n < FU := h
/-! sums from 0 -/
def sg (f : Int → Int) : Nat → Int
  | 0 => 0
  | n + 1 => sg f n + f (n : Int)
theorem sg_s {f : Int → Int} {i : Int} (h : 0 ≤ i) : sg f (i + 1).toNat = sg f i.toNat + f i := by
  obtain ⟨n, rfl⟩ := Int.eq_ofNat_of_zero_le h
  rfl
theorem sg_0 (f : Int → Int) : sg f (0 : Int).toNat = 0 := rfl
theorem sg_c {f g : Int → Int} : ∀ {n : Nat}, (∀ i : Int, 0 ≤ i → i < (n : Int) → f i = g i) → sg f n = sg g n := by
  intro n
  induction n with
  | zero => intro _; rfl
  | succ n ih =>
    intro h
    show sg f n + f n = sg g n + g n
    rw [ih (fun i h1 h2 => h i h1 (by omega)), h n (by omega) (by omega)]
theorem sg_le {f : Int → Int} {B : Int} : ∀ {n : Nat}, (∀ i : Int, 0 ≤ i → i < (n : Int) → 0 ≤ f i ∧ f i ≤ B) → 0 ≤ sg f n ∧ sg f n ≤ (n : Int) * B := by
  intro n
  induction n with
  | zero => intro _; exact ⟨Int.le_refl 0, by show (0 : Int) ≤ 0 * B; omega⟩
  | succ n ih =>
    intro h
    have h1 := ih (fun i h1 h2 => h i h1 (by omega))
    have h2 := h n (by omega) (by omega)
    show 0 ≤ sg f n + f n ∧ sg f n + f n ≤ ((n + 1 : Nat) : Int) * B
    have e : ((n + 1 : Nat) : Int) * B = (n : Int) * B + B := by rw [show ((n + 1 : Nat) : Int) = (n : Int) + 1 by omega, Int.add_mul, Int.one_mul]
    omega
theorem sg_z {f : Int → Int} {n : Nat} (h : ∀ i : Int, 0 ≤ i → i < (n : Int) → f i = 0) : sg f n = 0 := by
  rw [sg_c (g := fun _ => 0) h]
  induction n with
  | zero => rfl
  | succ n ih => show sg _ n + 0 = 0; rw [ih (fun i h1 h2 => h i h1 (by omega))]; rfl
theorem sg_bnd {f : Int → Int} {B : Int} : ∀ {n : Nat}, (∀ i : Int, 0 ≤ i → i < (n : Int) → -B ≤ f i ∧ f i ≤ B) → -((n : Int) * B) ≤ sg f n ∧ sg f n ≤ (n : Int) * B := by
  intro n
  induction n with
  | zero => intro _; exact ⟨by show -(0 * B) ≤ (0 : Int); omega, by show (0 : Int) ≤ 0 * B; omega⟩
  | succ n ih =>
    intro h
    have h1 := ih (fun i h1 h2 => h i h1 (by omega))
    have h2 := h n (by omega) (by omega)
    show -(((n + 1 : Nat) : Int) * B) ≤ sg f n + f n ∧ sg f n + f n ≤ ((n + 1 : Nat) : Int) * B
    have e : ((n + 1 : Nat) : Int) * B = (n : Int) * B + B := by rw [show ((n + 1 : Nat) : Int) = (n : Int) + 1 by omega, Int.add_mul, Int.one_mul]
    omega
/-- a sum over one place more, taken at its beginning -/
theorem sg_h {f : Int → Int} : ∀ {n : Nat}, sg f (n + 1) = f 0 + sg (fun i => f (i + 1)) n := by
  intro n
  induction n with
  | zero => show 0 + f 0 = f 0 + 0; omega
  | succ n ih =>
    show sg f (n + 1) + f ((n + 1 : Nat) : Int) = f 0 + (sg (fun i => f (i + 1)) n + f ((n : Int) + 1))
    rw [ih, show ((n + 1 : Nat) : Int) = (n : Int) + 1 by omega]; omega
/-- reading behind a store -/
theorem up_e {u : uS} {k : Nat} {j v : Int} {i : Nat} {b : Int} : up u k j v i b = if i = k ∧ b = j then v else u i b := rfl
theorem up_r {u : uS} {k i : Nat} {j v b : Int} (h : i = k ∧ b = j) : up u k j v i b = v := if_pos h
theorem up_n {u : uS} {k i : Nat} {j v b : Int} (h : i ≠ k ∨ b ≠ j) : up u k j v i b = u i b := if_neg (fun q => by rcases h with h | h; exact h q.1; exact h q.2)
/-! shapes, by number -/
theorem sh_sit {k : Nat} (hk : k < NN ∧ sT k = 11) : k + 14 < NN ∧ ∀ j, 1 ≤ j → j ≤ 14 → sT (k + j) = 100 := by
  have h : ∀ k, k < 264 → sT k = 11 → k + 14 < 264 ∧ ∀ j, j < 15 → 1 ≤ j → sT (k + j) = 100 := by decide +kernel
  obtain ⟨h1, h2⟩ := h k hk.1 hk.2
  exact ⟨h1, fun j h3 h4 => h2 j (by omega) h3⟩
