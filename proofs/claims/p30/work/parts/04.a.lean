section ZD
/-! loops -/
theorem zw1 {A : Type} (I K : A → Prop) (m : A → Nat) (hs : ∀ a, I a → (∀ a', I a' → m a' < m a → K a') → K a) : ∀ a, I a → K a := by
  have key : ∀ (n : Nat) (a : A), m a < n → I a → K a := by
    intro n
    induction n with
    | zero => intro a h; omega
    | succ n ih => intro a h hI; exact hs a hI (fun a' hI' hm => ih a' (by omega) hI')
  exact fun a hI => key (m a + 1) a (Nat.lt_succ_self _) hI
theorem zw2 {A B : Type} (I K : A → B → Prop) (m : A → B → Nat) (hs : ∀ a b, I a b → (∀ a' b', I a' b' → m a' b' < m a b → K a' b') → K a b) : ∀ a b, I a b → K a b := fun a b h => zw1 (A := A × B) (fun q => I q.1 q.2) (fun q => K q.1 q.2) (fun q => m q.1 q.2) (fun q hq ih => hs q.1 q.2 hq (fun a' b' h1 h2 => ih (a', b') h1 h2)) (a, b) h
theorem zw3 {A B C : Type} (I K : A → B → C → Prop) (m : A → B → C → Nat) (hs : ∀ a b c, I a b c → (∀ a' b' c', I a' b' c' → m a' b' c' < m a b c → K a' b' c') → K a b c) : ∀ a b c, I a b c → K a b c := fun a b c h => zw1 (A := A × B × C) (fun q => I q.1 q.2.1 q.2.2) (fun q => K q.1 q.2.1 q.2.2) (fun q => m q.1 q.2.1 q.2.2) (fun q hq ih => hs q.1 q.2.1 q.2.2 hq (fun a' b' c' h1 h2 => ih (a', b', c') h1 h2)) (a, b, c) h
theorem zw4 {A B C D : Type} (I K : A → B → C → D → Prop) (m : A → B → C → D → Nat) (hs : ∀ a b c d, I a b c d → (∀ a' b' c' d', I a' b' c' d' → m a' b' c' d' < m a b c d → K a' b' c' d') → K a b c d) : ∀ a b c d, I a b c d → K a b c d := fun a b c d h => zw1 (A := A × B × C × D) (fun q => I q.1 q.2.1 q.2.2.1 q.2.2.2) (fun q => K q.1 q.2.1 q.2.2.1 q.2.2.2) (fun q => m q.1 q.2.1 q.2.2.1 q.2.2.2) (fun q hq ih => hs q.1 q.2.1 q.2.2.1 q.2.2.2 hq (fun a' b' c' d' h1 h2 => ih (a', b', c', d') h1 h2)) (a, b, c, d) h
theorem zw5 {A B C D E : Type} (I K : A → B → C → D → E → Prop) (m : A → B → C → D → E → Nat) (hs : ∀ a b c d e, I a b c d e → (∀ a' b' c' d' e', I a' b' c' d' e' → m a' b' c' d' e' < m a b c d e → K a' b' c' d' e') → K a b c d e) : ∀ a b c d e, I a b c d e → K a b c d e := fun a b c d e h => zw1 (A := A × B × C × D × E) (fun q => I q.1 q.2.1 q.2.2.1 q.2.2.2.1 q.2.2.2.2) (fun q => K q.1 q.2.1 q.2.2.1 q.2.2.2.1 q.2.2.2.2) (fun q => m q.1 q.2.1 q.2.2.1 q.2.2.2.1 q.2.2.2.2) (fun q hq ih => hs q.1 q.2.1 q.2.2.1 q.2.2.2.1 q.2.2.2.2 hq (fun a' b' c' d' e' h1 h2 => ih (a', b', c', d', e') h1 h2)) (a, b, c, d, e) h
/-! fewer locals -/
def zSub (L' L : List (Option Value)) : Prop := ∀ (i : Nat) (v : Value), L'[i]? = some (some v) → L[i]? = some (some v)
theorem zs_0 {L : List (Option Value)} : zSub [] L := fun i v h => by simp at h
theorem zs_s {L' L : List (Option Value)} {v : Value} (h : zSub L' L) : zSub (some v :: L') (some v :: L) := by
  intro i u hu
  cases i with
  | zero => exact hu
  | succ i => exact h i u hu
theorem zs_n {L' L : List (Option Value)} {x : Option Value} (h : zSub L' L) : zSub (none :: L') (x :: L) := by
  intro i u hu
  cases i with
  | zero => cases hu
  | succ i => exact h i u hu
theorem Y.sub {d : Nat} {μ : zU} {pc : Nat} {L L' : List (Option Value)} {st : List Value} {σ : zS} {P : Option Value → zS → Prop} (hs : zSub L' L) (k : Y d μ pc L' st σ P) : Y d μ pc L st σ P := Y.loc k hs
theorem YC.of2 {hd : Nat} {μ : zU} {avs : List Value} {σ : zS} {Q : Option Value → zS → Prop} (hpl : plainName μ.1.cls = true) (hsl : (lg_sl avs).length ≤ μ.2.2.1) (k : ∀ (d : Nat) (P : Option Value → zS → Prop), hd ≤ d → (∀ r s, Q r s → P r s) → Y d μ 0 (zEnt avs μ.2.2.1) [] σ P) : YC hd μ avs σ Q := YC.of hpl hsl (fun d h => k d Q h (fun _ _ h => h))
/-! sums -/
def sm (f : Int → Int) (a : Int) : Nat → Int
  | 0 => 0
  | n + 1 => sm f a n + f (a + n)
theorem sm_s {f : Int → Int} {a i : Int} (h : a ≤ i) : sm f a (i + 1 - a).toNat = sm f a (i - a).toNat + f i := by
  have e : (i + 1 - a).toNat = (i - a).toNat + 1 := by omega
  rw [e]
  show sm f a (i - a).toNat + f (a + ((i - a).toNat : Int)) = _
  rw [show a + ((i - a).toNat : Int) = i by omega]
theorem sm_0 {f : Int → Int} {a : Int} : sm f a (a - a).toNat = 0 := by
  rw [show (a - a).toNat = 0 by omega]
  rfl
theorem sm_c {f g : Int → Int} {a : Int} : ∀ n : Nat, (∀ i : Int, a ≤ i → i < a + n → f i = g i) → sm f a n = sm g a n
  | 0, _ => rfl
  | n + 1, h => by
    show sm f a n + _ = sm g a n + _
    rw [sm_c n (fun i h1 h2 => h i h1 (by omega)), h (a + n) (by omega) (by omega)]
theorem sm_b {f : Int → Int} {a lo hi : Int} : ∀ n : Nat, (∀ i : Int, a ≤ i → i < a + n → lo ≤ f i ∧ f i ≤ hi) → lo * n ≤ sm f a n ∧ sm f a n ≤ hi * n
  | 0, _ => by constructor <;> show _ <;> simp [sm]
  | n + 1, h => by
    obtain ⟨h1, h2⟩ := sm_b n (fun i q1 q2 => h i q1 (by omega))
    obtain ⟨h3, h4⟩ := h (a + n) (by omega) (by omega)
    have e1 : lo * ((n + 1 : Nat) : Int) = lo * n + lo := by rw [Int.natCast_succ, Int.mul_add, Int.mul_one]
    have e2 : hi * ((n + 1 : Nat) : Int) = hi * n + hi := by rw [Int.natCast_succ, Int.mul_add, Int.mul_one]
    rw [e1, e2]
    show lo * n + lo ≤ sm f a n + f (a + n) ∧ sm f a n + f (a + n) ≤ hi * n + hi
    constructor <;> omega
/-! the plan: 0 period, 1 jitter, 2 deadline, 3 phase, 4 stride, 5 many (by chain); 6 node, 7 cost, 8 priority, 9 lag (by number of the step) -/
abbrev zP : Type := Nat → Int → Int
def cP (σ : zS) : zP := fun k => match k with
  | 0 => σ.1 3
  | 1 => σ.1 4
  | 2 => σ.1 5
  | 3 => σ.1 6
  | 4 => σ.1 7
  | 5 => σ.1 13
  | 6 => σ.1 9
  | 7 => σ.1 10
  | 8 => σ.1 11
  | _ => σ.1 12
def mP (σ : zS) : zP := fun k => match k with
  | 0 => σ.1 72
  | 1 => σ.1 73
  | 2 => σ.1 74
  | 3 => σ.1 75
  | 4 => σ.1 76
  | 5 => σ.1 77
  | 6 => σ.1 78
  | 7 => σ.1 79
  | 8 => σ.1 80
  | _ => σ.1 81
theorem cp0 {σ : zS} : cP σ 0 = σ.1 3 := rfl
theorem cp1 {σ : zS} : cP σ 1 = σ.1 4 := rfl
theorem cp2 {σ : zS} : cP σ 2 = σ.1 5 := rfl
theorem cp3 {σ : zS} : cP σ 3 = σ.1 6 := rfl
theorem cp4 {σ : zS} : cP σ 4 = σ.1 7 := rfl
theorem cp5 {σ : zS} : cP σ 5 = σ.1 13 := rfl
theorem cp6 {σ : zS} : cP σ 6 = σ.1 9 := rfl
theorem cp7 {σ : zS} : cP σ 7 = σ.1 10 := rfl
theorem cp8 {σ : zS} : cP σ 8 = σ.1 11 := rfl
theorem cp9 {σ : zS} : cP σ 9 = σ.1 12 := rfl
theorem mp0 {σ : zS} : mP σ 0 = σ.1 72 := rfl
theorem mp1 {σ : zS} : mP σ 1 = σ.1 73 := rfl
theorem mp2 {σ : zS} : mP σ 2 = σ.1 74 := rfl
theorem mp3 {σ : zS} : mP σ 3 = σ.1 75 := rfl
theorem mp4 {σ : zS} : mP σ 4 = σ.1 76 := rfl
theorem mp5 {σ : zS} : mP σ 5 = σ.1 77 := rfl
theorem mp6 {σ : zS} : mP σ 6 = σ.1 78 := rfl
theorem mp7 {σ : zS} : mP σ 7 = σ.1 79 := rfl
theorem mp8 {σ : zS} : mP σ 8 = σ.1 80 := rfl
theorem mp9 {σ : zS} : mP σ 9 = σ.1 81 := rfl
def th (p : zP) (x : Int) : Prop := x % 3 < p 5 (x / 3)
def riv (p : zP) (x k : Int) : Prop := th p k ∧ k ≠ x ∧ p 6 k = p 6 x ∧ p 8 x ≤ p 8 k
/-- a plan's numbers are as told -/
def WP (p : zP) : Prop := (∀ i : Int, 0 ≤ i → i < 3 → (5 ≤ p 0 i ∧ p 0 i ≤ 100) ∧ (0 ≤ p 1 i ∧ p 1 i ≤ 30) ∧ (0 ≤ p 2 i ∧ p 2 i ≤ 200) ∧ (0 ≤ p 3 i ∧ p 3 i ≤ 99) ∧ (0 ≤ p 4 i ∧ p 4 i ≤ 9) ∧ (0 ≤ p 5 i ∧ p 5 i ≤ 3)) ∧
  (∀ x : Int, 0 ≤ x → x < 9 → (0 ≤ p 6 x ∧ p 6 x ≤ 1) ∧ (0 ≤ p 7 x ∧ p 7 x ≤ 28) ∧ (0 ≤ p 8 x ∧ p 8 x ≤ 9) ∧ (0 ≤ p 9 x ∧ p 9 x ≤ 20)) ∧
  (∀ x : Int, 0 ≤ x → x < 9 → th p x → 1 ≤ p 7 x)
def ear (p : zP) (x : Int) : Int := p 9 x + sm (fun y => p 9 y + p 7 y) (x - x % 3) (x - (x - x % 3)).toNat
noncomputable def rvs (p : zP) (x : Int) : Int := sm (fun y => zb (riv p x y)) 0 9
def lb (p : zP) : Int := p 0 0 * p 0 1 * p 0 2
noncomputable def la (p : zP) (x : Int) : Int := sm (fun y => @ite _ (y = x ∨ riv p x y) (Classical.propDecidable _) (p 7 y * (lb p / p 0 (y / 3))) 0) 0 9
theorem ear_b {p : zP} (hp : WP p) {x : Int} (h0 : 0 ≤ x) (h9 : x < 9) : 0 ≤ ear p x ∧ ear p x ≤ 116 := by
  have h := (hp.2.1 x h0 h9).2.2.2
  have hs := sm_b (f := fun y => p 9 y + p 7 y) (a := x - x % 3) (lo := 0) (hi := 48) (x - (x - x % 3)).toNat (fun i h1 h2 => by
    have := hp.2.1 i (by omega) (by omega)
    omega)
  unfold ear
  have e : ((x - (x - x % 3)).toNat : Int) ≤ 2 := by omega
  have e0 : 0 ≤ ((x - (x - x % 3)).toNat : Int) := by omega
  omega
end ZD
