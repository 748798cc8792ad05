abbrev mC : Type := Nat × Nat × List (Nat × Nat)
abbrev mS : Type := (Nat → Nat → Int32) × (Nat → Nat → Int64) × (Nat → Nat → Option Nat)
abbrev mT : Type := Nat × (Nat → Int32) × Nat × List mC
def mFv (σ : mS) (a c : Nat) (k : Nat × Nat) : Value := match k.1 with
  | 0 => .int (σ.1 a c)
  | 1 => .long (σ.2.1 a c)
  | 2 => .ref k.2
  | _ => va_rf (σ.2.2 a c)
def mFs (σ : mS) (a : Nat) : Nat → List (Nat × Nat) → List Value
  | _, [] => []
  | c, k :: ks => mFv σ a c k :: mFs σ a (c + 1) ks
def mE (σ : mS) (a : Nat) (c : mC) : LE := if c.1 = 1 then .inl (1, c.2.1, .inr (.inl (σ.2.1 a))) else if c.1 = 4 then .inl (4, c.2.1, .inr (.inr (.inr (.inr (σ.2.2 a))))) else if c.1 < 100 then .inl (c.1, c.2.1, .inl (σ.1 a)) else .inr (c.1 - 100, mFs σ a 0 c.2.2)
def mSz : List mC → Nat
  | [] => 0
  | c :: cs => c.2.1 + mSz cs
def mW (w : mT) (σ : mS) : Hp := (w.2.2.2.length, w.2.2.1, mSz w.2.2.2 + 6 * w.2.2.1, fun q => match w.2.2.2[q]? with
  | some c => mE σ q c
  | none => if q = SCR then .inl (7, w.1, .inl w.2.1) else hDum)
def mL (w : mT) (a : Nat) : Option mC := w.2.2.2[a]?
def tg (o : Option mC) : Nat := match o with
  | some c => c.1
  | none => 99
def ln (o : Option mC) : Nat := match o with
  | some c => c.2.1
  | none => 0
def fk (o : Option mC) (c : Nat) : Nat := match o with
  | some d => (d.2.2.getD c (9, 0)).1
  | none => 9
def fq (o : Option mC) (c : Nat) : Nat := match o with
  | some d => (d.2.2.getD c (9, 0)).2
  | none => 9
theorem tg_some {t n : Nat} {l : List (Nat × Nat)} : tg (some (t, n, l)) = t := rfl
theorem ln_some {t n : Nat} {l : List (Nat × Nat)} : ln (some (t, n, l)) = n := rfl
def uI (σ : mS) (a j : Nat) (x : Int32) : mS := (fun a' j' => if a' = a ∧ j' = j then x else σ.1 a' j', σ.2.1, σ.2.2)
def uL (σ : mS) (a j : Nat) (x : Int64) : mS := (σ.1, fun a' j' => if a' = a ∧ j' = j then x else σ.2.1 a' j', σ.2.2)
def uQ (σ : mS) (a j : Nat) (x : Option Nat) : mS := (σ.1, σ.2.1, fun a' j' => if a' = a ∧ j' = j then x else σ.2.2 a' j')
theorem tg_in {w : mT} {a t : Nat} (h : tg (mL w a) = t) (ht : t ≠ 99) : ∃ n l, mL w a = some (t, n, l) := by
  unfold tg at h
  split at h
  · rename_i c hc; obtain ⟨t', n, l⟩ := c; simp only at h; subst h; exact ⟨n, l, hc⟩
  · exact absurd h.symm ht
theorem hAt_m {w : mT} {σ : mS} {a : Nat} {c : mC} (h : mL w a = some c) : hAt (mW w σ) a = mE σ a c := by
  unfold mL at h
  simp only [hAt, mW, h]
theorem hAt_mI {w : mT} {σ : mS} {a t n : Nat} {l : List (Nat × Nat)} (h : mL w a = some (t, n, l)) (h1 : t ≠ 1) (h2 : t ≠ 4) (h3 : t < 100) : hAt (mW w σ) a = .inl (t, n, .inl (σ.1 a)) := by
  rw [hAt_m h]; simp only [mE, h1, h2, h3, if_true, if_false]
theorem hAt_mL {w : mT} {σ : mS} {a n : Nat} {l : List (Nat × Nat)} (h : mL w a = some (1, n, l)) : hAt (mW w σ) a = .inl (1, n, .inr (.inl (σ.2.1 a))) := by
  rw [hAt_m h]; simp [mE]
theorem hAt_mQ {w : mT} {σ : mS} {a n : Nat} {l : List (Nat × Nat)} (h : mL w a = some (4, n, l)) : hAt (mW w σ) a = .inl (4, n, .inr (.inr (.inr (.inr (σ.2.2 a))))) := by
  rw [hAt_m h]; simp [mE]
theorem hAt_mO {w : mT} {σ : mS} {a b n : Nat} {l : List (Nat × Nat)} (h : mL w a = some (100 + b, n, l)) : hAt (mW w σ) a = .inr (b, mFs σ a 0 l) := by
  rw [hAt_m h]
  have h1 : ¬ (100 + b = 1) := by omega
  have h2 : ¬ (100 + b = 4) := by omega
  have h3 : ¬ (100 + b < 100) := by omega
  simp only [mE, h1, h2, h3, if_false]
  rw [Nat.add_sub_cancel_left]
theorem mFs_get (σ : mS) (a : Nat) : ∀ (l : List (Nat × Nat)) (i c : Nat), (mFs σ a i l)[c]? = (l[c]?).map (mFv σ a (i + c))
  | [], i, c => by simp [mFs]
  | k :: l, i, 0 => by simp [mFs]
  | k :: l, i, c + 1 => by
    simp only [mFs, List.getElem?_cons_succ]
    rw [mFs_get σ a l (i + 1) c, show i + 1 + c = i + (c + 1) by omega]
theorem mFs_len (σ : mS) (a : Nat) : ∀ (l : List (Nat × Nat)) (i : Nat), (mFs σ a i l).length = l.length
  | [], i => rfl
  | k :: l, i => by simp [mFs, mFs_len σ a l (i + 1)]
theorem fk_get {l : List (Nat × Nat)} {c k n t : Nat} (h : fk (some (t, n, l)) c = k) (hk : k ≠ 9) : ∃ q, l[c]? = some (k, q) ∧ fq (some (t, n, l)) c = q := by
  simp only [fk, fq, List.getD_eq_getElem?_getD] at h ⊢
  cases hq : l[c]? with
  | none => rw [hq] at h; exact absurd h.symm hk
  | some v =>
    rw [hq] at h
    obtain ⟨v1, v2⟩ := v
    simp only [Option.getD_some] at h
    subst h
    exact ⟨v2, rfl, rfl⟩
theorem inr_inj {b : Nat} {fs fs' : List Value} {b' : Nat} (h : (Sum.inr (b, fs) : LE) = .inr (b', fs')) : b = b' ∧ fs = fs' := by
  cases h; exact ⟨rfl, rfl⟩

theorem rF_I {w : mT} {σ : mS} {r b c : Nat} (h1 : tg (mL w r) = 100 + b) (h2 : fk (mL w r) c = 0) {P : Int32 → Prop} : (∃ x : Int32, hF (mW w σ) r b c (.int x) ∧ P x) ↔ P (σ.1 r c) := by
  obtain ⟨n, l, h⟩ := tg_in h1 (by omega)
  rw [h] at h2
  obtain ⟨q, hq, -⟩ := fk_get h2 (by decide)
  have e : (mFs σ r 0 l)[c]? = some (.int (σ.1 r c)) := by rw [mFs_get, hq]; simp [mFv]
  constructor
  · rintro ⟨x, ⟨fs, a1, a2⟩, hx⟩
    rw [hAt_mO h] at a1
    obtain ⟨-, rfl⟩ := inr_inj a1
    rw [e] at a2
    cases a2
    exact hx
  · intro hx
    exact ⟨_, ⟨_, hAt_mO h, e⟩, hx⟩
theorem rF_L {w : mT} {σ : mS} {r b c : Nat} (h1 : tg (mL w r) = 100 + b) (h2 : fk (mL w r) c = 1) {P : Int64 → Prop} : (∃ x : Int64, hF (mW w σ) r b c (.long x) ∧ P x) ↔ P (σ.2.1 r c) := by
  obtain ⟨n, l, h⟩ := tg_in h1 (by omega)
  rw [h] at h2
  obtain ⟨q, hq, -⟩ := fk_get h2 (by decide)
  have e : (mFs σ r 0 l)[c]? = some (.long (σ.2.1 r c)) := by rw [mFs_get, hq]; simp [mFv]
  constructor
  · rintro ⟨x, ⟨fs, a1, a2⟩, hx⟩
    rw [hAt_mO h] at a1
    obtain ⟨-, rfl⟩ := inr_inj a1
    rw [e] at a2
    cases a2
    exact hx
  · intro hx
    exact ⟨_, ⟨_, hAt_mO h, e⟩, hx⟩
theorem rF_R {w : mT} {σ : mS} {r b c : Nat} (h1 : tg (mL w r) = 100 + b) (h2 : fk (mL w r) c = 2) {P : Nat → Prop} : (∃ x : Nat, hF (mW w σ) r b c (.ref x) ∧ P x) ↔ P (fq (mL w r) c) := by
  obtain ⟨n, l, h⟩ := tg_in h1 (by omega)
  rw [h] at h2
  obtain ⟨q, hq, hq2⟩ := fk_get h2 (by decide)
  have e : (mFs σ r 0 l)[c]? = some (.ref q) := by rw [mFs_get, hq]; simp [mFv]
  rw [h, hq2]
  constructor
  · rintro ⟨x, ⟨fs, a1, a2⟩, hx⟩
    rw [hAt_mO h] at a1
    obtain ⟨-, rfl⟩ := inr_inj a1
    rw [e] at a2
    cases a2
    exact hx
  · intro hx
    exact ⟨_, ⟨_, hAt_mO h, e⟩, hx⟩
theorem rF_M {w : mT} {σ : mS} {r b c q : Nat} (h1 : tg (mL w r) = 100 + b) (h2 : fk (mL w r) c = 3) (h3 : σ.2.2 r c = some q) {P : Nat → Prop} : (∃ x : Nat, hF (mW w σ) r b c (.ref x) ∧ P x) ↔ P q := by
  obtain ⟨n, l, h⟩ := tg_in h1 (by omega)
  rw [h] at h2
  obtain ⟨q', hq, hq2⟩ := fk_get h2 (by decide)
  have e : (mFs σ r 0 l)[c]? = some (.ref q) := by rw [mFs_get, hq]; simp [mFv, h3, va_rf]
  constructor
  · rintro ⟨x, ⟨fs, a1, a2⟩, hx⟩
    rw [hAt_mO h] at a1
    obtain ⟨-, rfl⟩ := inr_inj a1
    rw [e] at a2
    cases a2
    exact hx
  · intro hx
    exact ⟨_, ⟨_, hAt_mO h, e⟩, hx⟩
theorem rO_m {w : mT} {σ : mS} {r b : Nat} (h1 : tg (mL w r) = 100 + b) : hOb (mW w σ) r b ↔ True := by
  obtain ⟨n, l, h⟩ := tg_in h1 (by omega)
  exact iff_true_intro ⟨_, hAt_mO h⟩
theorem rB_m {w : mT} {σ : mS} {r b c : Nat} (h1 : tg (mL w r) = 100 + b) (h2 : fk (mL w r) c < 9) : hB (mW w σ) r b c ↔ True := by
  obtain ⟨n, l, h⟩ := tg_in h1 (by omega)
  rw [h] at h2
  obtain ⟨q, hq, -⟩ := fk_get (k := fk (some (100 + b, n, l)) c) rfl (by omega)
  refine iff_true_intro ⟨_, hAt_mO h, ?_⟩
  rw [mFs_len]
  exact (List.getElem?_eq_some_iff.mp hq).1
theorem rI_m {w : mT} {σ : mS} {a : Nat} {j : Int32} (h1 : tg (mL w a) = 0) (h2 : inB j (ln (mL w a)) = true) {P : Int32 → Prop} : (∃ x, rdI (mW w σ) a j x ∧ P x) ↔ P (σ.1 a j.toNatClampNeg) := by
  obtain ⟨n, l, h⟩ := tg_in h1 (by decide)
  rw [h] at h2
  have e := hAt_mI (σ := σ) h (by decide) (by decide) (by decide)
  constructor
  · rintro ⟨x, ⟨t', n', f', -, a1, -, a3⟩, hx⟩
    rw [e] at a1
    cases a1
    rw [a3] at hx
    exact hx
  · intro hx
    exact ⟨_, ⟨0, n, _, Or.inl rfl, e, h2, rfl⟩, hx⟩
theorem wI_m {w : mT} {σ : mS} {a : Nat} {j : Int32} (h1 : tg (mL w a) = 0) (h2 : inB j (ln (mL w a)) = true) : wrI (mW w σ) a j ↔ True := by
  obtain ⟨n, l, h⟩ := tg_in h1 (by decide)
  rw [h] at h2
  exact iff_true_intro ⟨n, _, hAt_mI (σ := σ) h (by decide) (by decide) (by decide), h2⟩
theorem rBy_m {w : mT} {σ : mS} {a t : Nat} {j : Int32} (h1 : tg (mL w a) = t) (ht : t = 2 ∨ t = 3) (h2 : inB j (ln (mL w a)) = true) {P : Int32 → Prop} : (∃ x, rdB (mW w σ) a j x ∧ P x) ↔ P (σ.1 a j.toNatClampNeg) := by
  obtain ⟨n, l, h⟩ := tg_in h1 (by omega)
  rw [h] at h2
  have e := hAt_mI (σ := σ) h (by omega) (by omega) (by omega)
  constructor
  · rintro ⟨x, ⟨t', n', f', -, a1, -, a3⟩, hx⟩
    rw [e] at a1
    cases a1
    rw [a3] at hx
    exact hx
  · intro hx
    exact ⟨_, ⟨t, n, _, ht, e, h2, rfl⟩, hx⟩
theorem wBy_m {w : mT} {σ : mS} {a t : Nat} {j : Int32} (h1 : tg (mL w a) = t) (ht : t = 2 ∨ t = 3) (h2 : inB j (ln (mL w a)) = true) : wrB (mW w σ) a j ↔ True := by
  obtain ⟨n, l, h⟩ := tg_in h1 (by omega)
  rw [h] at h2
  exact iff_true_intro ⟨t, n, _, ht, hAt_mI (σ := σ) h (by omega) (by omega) (by omega), h2⟩
theorem rL_m {w : mT} {σ : mS} {a : Nat} {j : Int32} (h1 : tg (mL w a) = 1) (h2 : inB j (ln (mL w a)) = true) {P : Int64 → Prop} : (∃ x, rdL (mW w σ) a j x ∧ P x) ↔ P (σ.2.1 a j.toNatClampNeg) := by
  obtain ⟨n, l, h⟩ := tg_in h1 (by decide)
  rw [h] at h2
  have e := hAt_mL (σ := σ) h
  constructor
  · rintro ⟨x, ⟨n', f', a1, -, a3⟩, hx⟩
    rw [e] at a1
    cases a1
    rw [a3] at hx
    exact hx
  · intro hx
    exact ⟨_, ⟨n, _, e, h2, rfl⟩, hx⟩
theorem wL_m {w : mT} {σ : mS} {a : Nat} {j : Int32} (h1 : tg (mL w a) = 1) (h2 : inB j (ln (mL w a)) = true) : wrL (mW w σ) a j ↔ True := by
  obtain ⟨n, l, h⟩ := tg_in h1 (by decide)
  rw [h] at h2
  exact iff_true_intro ⟨n, _, hAt_mL (σ := σ) h, h2⟩
theorem rQ_m {w : mT} {σ : mS} {a : Nat} {j : Int32} (h1 : tg (mL w a) = 4) (h2 : inB j (ln (mL w a)) = true) {P : Option Nat → Prop} : (∃ x, rdQ (mW w σ) a j x ∧ P x) ↔ P (σ.2.2 a j.toNatClampNeg) := by
  obtain ⟨n, l, h⟩ := tg_in h1 (by decide)
  rw [h] at h2
  have e := hAt_mQ (σ := σ) h
  constructor
  · rintro ⟨x, ⟨n', f', a1, -, a3⟩, hx⟩
    rw [e] at a1
    cases a1
    rw [a3] at hx
    exact hx
  · intro hx
    exact ⟨_, ⟨n, _, e, h2, rfl⟩, hx⟩
theorem wQ_m {w : mT} {σ : mS} {a q : Nat} {j : Int32} (h1 : tg (mL w a) = 4) (h2 : inB j (ln (mL w a)) = true) (h3 : tg (mL w q) = 105) : wrQ (mW w σ) a j q ↔ True := by
  obtain ⟨n, l, h⟩ := tg_in h1 (by decide)
  rw [h] at h2
  exact iff_true_intro ⟨⟨n, _, hAt_mQ (σ := σ) h, h2⟩, (rO_m h3).mpr trivial⟩
theorem lI_m {w : mT} {σ : mS} {a : Nat} (h1 : tg (mL w a) = 0) {P : Nat → Prop} : (∃ n, lnI (mW w σ) a n ∧ P n) ↔ P (ln (mL w a)) := by
  obtain ⟨n, l, h⟩ := tg_in h1 (by decide)
  have e := hAt_mI (σ := σ) h (by decide) (by decide) (by decide)
  rw [h]
  constructor
  · rintro ⟨x, ⟨t', f', -, a1⟩, hx⟩
    rw [e] at a1
    cases a1
    exact hx
  · intro hx
    exact ⟨_, ⟨0, _, Or.inl rfl, e⟩, hx⟩
theorem hAt_scr {w : mT} {σ : mS} (h : w.2.2.2.length ≤ SCR) : hAt (mW w σ) SCR = .inl (7, w.1, .inl w.2.1) := by
  have e : w.2.2.2[SCR]? = none := List.getElem?_eq_none h
  simp only [hAt, mW, e, if_true]
theorem rI_scr {w : mT} {σ : mS} {j : Int32} (h1 : w.2.2.2.length ≤ SCR) (h2 : inB j w.1 = true) {P : Int32 → Prop} : (∃ x, rdI (mW w σ) SCR j x ∧ P x) ↔ P (w.2.1 j.toNatClampNeg) := by
  have e := hAt_scr (σ := σ) h1
  constructor
  · rintro ⟨x, ⟨t', n', f', -, a1, -, a3⟩, hx⟩
    rw [e] at a1
    cases a1
    rw [a3] at hx
    exact hx
  · intro hx
    exact ⟨_, ⟨7, _, _, Or.inr rfl, e, h2, rfl⟩, hx⟩
theorem lI_scr {w : mT} {σ : mS} (h1 : w.2.2.2.length ≤ SCR) {P : Nat → Prop} : (∃ n, lnI (mW w σ) SCR n ∧ P n) ↔ P w.1 := by
  have e := hAt_scr (σ := σ) h1
  constructor
  · rintro ⟨x, ⟨t', f', -, a1⟩, hx⟩
    rw [e] at a1
    cases a1
    exact hx
  · intro hx
    exact ⟨_, ⟨7, _, Or.inr rfl, e⟩, hx⟩

theorem uI_ne {σ : mS} {a j q : Nat} {x : Int32} (h : q ≠ a) : (uI σ a j x).1 q = σ.1 q ∧ (uI σ a j x).2.1 q = σ.2.1 q ∧ (uI σ a j x).2.2 q = σ.2.2 q := by
  refine ⟨?_, ?_, ?_⟩ <;> first | rfl | (funext j'; simp [uI, h])
theorem uI_fs {σ : mS} {a j q : Nat} {x : Int32} (h : q ≠ a) : ∀ (l : List (Nat × Nat)) (i : Nat), mFs (uI σ a j x) q i l = mFs σ q i l
  | [], i => rfl
  | k :: l, i => by
    obtain ⟨e1, e2, e3⟩ := uI_ne (σ := σ) (j := j) (x := x) h
    simp only [mFs, uI_fs h l (i + 1), mFv, e1, e2, e3]
theorem uI_lt {σ : mS} {a j : Nat} {x : Int32} : ∀ (l : List (Nat × Nat)) (i : Nat), j < i → mFs (uI σ a j x) a i l = mFs σ a i l
  | [], i, _ => rfl
  | k :: l, i, h => by
    have hn : ¬ i = j := by omega
    have e := uI_lt (σ := σ) (a := a) (j := j) (x := x) l (i + 1) (by omega)
    show mFv (uI σ a j x) a i k :: mFs (uI σ a j x) a (i + 1) l = mFv σ a i k :: mFs σ a (i + 1) l
    rw [e]
    congr 1
    simp only [mFv, uI, hn, and_false, if_false]
theorem uI_set {σ : mS} {a : Nat} {x : Int32} : ∀ (l : List (Nat × Nat)) (i c q : Nat), l[c]? = some (0, q) → mFs (uI σ a (i + c) x) a i l = (mFs σ a i l).set c (.int x)
  | [], i, c, q, h => by simp at h
  | k :: l, i, 0, q, h => by
    simp only [List.getElem?_cons_zero, Option.some.injEq] at h
    subst h
    have e := uI_lt (σ := σ) (a := a) (j := i) (x := x) l (i + 1) (by omega)
    show mFv (uI σ a i x) a i (0, q) :: mFs (uI σ a i x) a (i + 1) l = (.int x) :: mFs σ a (i + 1) l
    rw [e]
    congr 1
    simp only [mFv, uI, and_self, if_true]
  | k :: l, i, c + 1, q, h => by
    simp only [List.getElem?_cons_succ] at h
    have e := uI_set (σ := σ) (a := a) (x := x) l (i + 1) c q h
    rw [show i + (c + 1) = i + 1 + c by omega]
    have hn : ¬ i = i + 1 + c := by omega
    show mFv (uI σ a (i + 1 + c) x) a i k :: mFs (uI σ a (i + 1 + c) x) a (i + 1) l = mFv σ a i k :: (mFs σ a (i + 1) l).set c (.int x)
    rw [e]
    congr 1
    simp only [mFv, uI, hn, and_false, if_false]
theorem uI_eq {w : mT} {σ : mS} {a j : Nat} {x : Int32} {e : LE} (h : ∀ c, mL w a = some c → mE (uI σ a j x) a c = e) (h0 : ∃ c, mL w a = some c) : hSet (mW w σ) a e = mW w (uI σ a j x) := by
  obtain ⟨c, h0⟩ := h0
  have h1 := h c h0
  unfold mL at h0
  refine Prod.ext rfl (Prod.ext rfl (Prod.ext rfl (funext fun q => ?_)))
  simp only [hSet, mW]
  by_cases hq : q = a
  · subst hq
    simp only [if_true, h0]
    exact h1.symm
  · rw [if_neg hq]
    obtain ⟨e1, e2, e3⟩ := uI_ne (σ := σ) (j := j) (x := x) hq
    cases w.2.2.2[q]? with
    | none => rfl
    | some d => simp only [mE, e1, e2, e3, uI_fs hq]
theorem pI_m {w : mT} {σ : mS} {r c : Nat} {x : Int32} (h1 : 100 ≤ tg (mL w r)) (h2 : fk (mL w r) c = 0) : hPut (mW w σ) r c (.int x) = mW w (uI σ r c x) := by
  obtain ⟨b, hb⟩ : ∃ b, tg (mL w r) = 100 + b := ⟨tg (mL w r) - 100, by omega⟩
  obtain ⟨n, l, h⟩ : ∃ n l, mL w r = some (100 + b, n, l) := by
    unfold tg at hb
    split at hb
    · rename_i d hc; obtain ⟨t', n, l⟩ := d; simp only at hb; subst hb; exact ⟨n, l, hc⟩
    · omega
  rw [h] at h2
  obtain ⟨q, hq, -⟩ := fk_get h2 (by decide)
  simp only [hPut, hAt_mO h]
  refine uI_eq (fun d hd => ?_) ⟨_, h⟩
  rw [h] at hd
  cases hd
  have g1 : ¬ (100 + b = 1) := by omega
  have g2 : ¬ (100 + b = 4) := by omega
  have g3 : ¬ (100 + b < 100) := by omega
  have e := uI_set (σ := σ) (a := r) (x := x) l 0 c q hq
  rw [Nat.zero_add] at e
  simp only [mE, g1, g2, g3, if_false, e, Nat.add_sub_cancel_left]
theorem uL_ne {σ : mS} {a j q : Nat} {x : Int64} (h : q ≠ a) : (uL σ a j x).1 q = σ.1 q ∧ (uL σ a j x).2.1 q = σ.2.1 q ∧ (uL σ a j x).2.2 q = σ.2.2 q := by
  refine ⟨?_, ?_, ?_⟩ <;> first | rfl | (funext j'; simp [uL, h])
theorem uL_fs {σ : mS} {a j q : Nat} {x : Int64} (h : q ≠ a) : ∀ (l : List (Nat × Nat)) (i : Nat), mFs (uL σ a j x) q i l = mFs σ q i l
  | [], i => rfl
  | k :: l, i => by
    obtain ⟨e1, e2, e3⟩ := uL_ne (σ := σ) (j := j) (x := x) h
    simp only [mFs, uL_fs h l (i + 1), mFv, e1, e2, e3]
theorem uL_lt {σ : mS} {a j : Nat} {x : Int64} : ∀ (l : List (Nat × Nat)) (i : Nat), j < i → mFs (uL σ a j x) a i l = mFs σ a i l
  | [], i, _ => rfl
  | k :: l, i, h => by
    have hn : ¬ i = j := by omega
    have e := uL_lt (σ := σ) (a := a) (j := j) (x := x) l (i + 1) (by omega)
    show mFv (uL σ a j x) a i k :: mFs (uL σ a j x) a (i + 1) l = mFv σ a i k :: mFs σ a (i + 1) l
    rw [e]
    congr 1
    simp only [mFv, uL, hn, and_false, if_false]
theorem uL_set {σ : mS} {a : Nat} {x : Int64} : ∀ (l : List (Nat × Nat)) (i c q : Nat), l[c]? = some (1, q) → mFs (uL σ a (i + c) x) a i l = (mFs σ a i l).set c (.long x)
  | [], i, c, q, h => by simp at h
  | k :: l, i, 0, q, h => by
    simp only [List.getElem?_cons_zero, Option.some.injEq] at h
    subst h
    have e := uL_lt (σ := σ) (a := a) (j := i) (x := x) l (i + 1) (by omega)
    show mFv (uL σ a i x) a i (1, q) :: mFs (uL σ a i x) a (i + 1) l = (.long x) :: mFs σ a (i + 1) l
    rw [e]
    congr 1
    simp only [mFv, uL, and_self, if_true]
  | k :: l, i, c + 1, q, h => by
    simp only [List.getElem?_cons_succ] at h
    have e := uL_set (σ := σ) (a := a) (x := x) l (i + 1) c q h
    rw [show i + (c + 1) = i + 1 + c by omega]
    have hn : ¬ i = i + 1 + c := by omega
    show mFv (uL σ a (i + 1 + c) x) a i k :: mFs (uL σ a (i + 1 + c) x) a (i + 1) l = mFv σ a i k :: (mFs σ a (i + 1) l).set c (.long x)
    rw [e]
    congr 1
    simp only [mFv, uL, hn, and_false, if_false]
theorem uL_eq {w : mT} {σ : mS} {a j : Nat} {x : Int64} {e : LE} (h : ∀ c, mL w a = some c → mE (uL σ a j x) a c = e) (h0 : ∃ c, mL w a = some c) : hSet (mW w σ) a e = mW w (uL σ a j x) := by
  obtain ⟨c, h0⟩ := h0
  have h1 := h c h0
  unfold mL at h0
  refine Prod.ext rfl (Prod.ext rfl (Prod.ext rfl (funext fun q => ?_)))
  simp only [hSet, mW]
  by_cases hq : q = a
  · subst hq
    simp only [if_true, h0]
    exact h1.symm
  · rw [if_neg hq]
    obtain ⟨e1, e2, e3⟩ := uL_ne (σ := σ) (j := j) (x := x) hq
    cases w.2.2.2[q]? with
    | none => rfl
    | some d => simp only [mE, e1, e2, e3, uL_fs hq]
theorem pL_m {w : mT} {σ : mS} {r c : Nat} {x : Int64} (h1 : 100 ≤ tg (mL w r)) (h2 : fk (mL w r) c = 1) : hPut (mW w σ) r c (.long x) = mW w (uL σ r c x) := by
  obtain ⟨b, hb⟩ : ∃ b, tg (mL w r) = 100 + b := ⟨tg (mL w r) - 100, by omega⟩
  obtain ⟨n, l, h⟩ : ∃ n l, mL w r = some (100 + b, n, l) := by
    unfold tg at hb
    split at hb
    · rename_i d hc; obtain ⟨t', n, l⟩ := d; simp only at hb; subst hb; exact ⟨n, l, hc⟩
    · omega
  rw [h] at h2
  obtain ⟨q, hq, -⟩ := fk_get h2 (by decide)
  simp only [hPut, hAt_mO h]
  refine uL_eq (fun d hd => ?_) ⟨_, h⟩
  rw [h] at hd
  cases hd
  have g1 : ¬ (100 + b = 1) := by omega
  have g2 : ¬ (100 + b = 4) := by omega
  have g3 : ¬ (100 + b < 100) := by omega
  have e := uL_set (σ := σ) (a := r) (x := x) l 0 c q hq
  rw [Nat.zero_add] at e
  simp only [mE, g1, g2, g3, if_false, e, Nat.add_sub_cancel_left]
theorem uQ_ne {σ : mS} {a j q : Nat} {x : Option Nat} (h : q ≠ a) : (uQ σ a j x).1 q = σ.1 q ∧ (uQ σ a j x).2.1 q = σ.2.1 q ∧ (uQ σ a j x).2.2 q = σ.2.2 q := by
  refine ⟨?_, ?_, ?_⟩ <;> first | rfl | (funext j'; simp [uQ, h])
theorem uQ_fs {σ : mS} {a j q : Nat} {x : Option Nat} (h : q ≠ a) : ∀ (l : List (Nat × Nat)) (i : Nat), mFs (uQ σ a j x) q i l = mFs σ q i l
  | [], i => rfl
  | k :: l, i => by
    obtain ⟨e1, e2, e3⟩ := uQ_ne (σ := σ) (j := j) (x := x) h
    simp only [mFs, uQ_fs h l (i + 1), mFv, e1, e2, e3]
theorem uQ_lt {σ : mS} {a j : Nat} {x : Option Nat} : ∀ (l : List (Nat × Nat)) (i : Nat), j < i → mFs (uQ σ a j x) a i l = mFs σ a i l
  | [], i, _ => rfl
  | k :: l, i, h => by
    have hn : ¬ i = j := by omega
    have e := uQ_lt (σ := σ) (a := a) (j := j) (x := x) l (i + 1) (by omega)
    show mFv (uQ σ a j x) a i k :: mFs (uQ σ a j x) a (i + 1) l = mFv σ a i k :: mFs σ a (i + 1) l
    rw [e]
    congr 1
    simp only [mFv, uQ, hn, and_false, if_false]
theorem uQ_set {σ : mS} {a : Nat} {x : Option Nat} : ∀ (l : List (Nat × Nat)) (i c q : Nat), l[c]? = some (3, q) → mFs (uQ σ a (i + c) x) a i l = (mFs σ a i l).set c (va_rf x)
  | [], i, c, q, h => by simp at h
  | k :: l, i, 0, q, h => by
    simp only [List.getElem?_cons_zero, Option.some.injEq] at h
    subst h
    have e := uQ_lt (σ := σ) (a := a) (j := i) (x := x) l (i + 1) (by omega)
    show mFv (uQ σ a i x) a i (3, q) :: mFs (uQ σ a i x) a (i + 1) l = (va_rf x) :: mFs σ a (i + 1) l
    rw [e]
    congr 1
    simp only [mFv, uQ, and_self, if_true]
  | k :: l, i, c + 1, q, h => by
    simp only [List.getElem?_cons_succ] at h
    have e := uQ_set (σ := σ) (a := a) (x := x) l (i + 1) c q h
    rw [show i + (c + 1) = i + 1 + c by omega]
    have hn : ¬ i = i + 1 + c := by omega
    show mFv (uQ σ a (i + 1 + c) x) a i k :: mFs (uQ σ a (i + 1 + c) x) a (i + 1) l = mFv σ a i k :: (mFs σ a (i + 1) l).set c (va_rf x)
    rw [e]
    congr 1
    simp only [mFv, uQ, hn, and_false, if_false]
theorem uQ_eq {w : mT} {σ : mS} {a j : Nat} {x : Option Nat} {e : LE} (h : ∀ c, mL w a = some c → mE (uQ σ a j x) a c = e) (h0 : ∃ c, mL w a = some c) : hSet (mW w σ) a e = mW w (uQ σ a j x) := by
  obtain ⟨c, h0⟩ := h0
  have h1 := h c h0
  unfold mL at h0
  refine Prod.ext rfl (Prod.ext rfl (Prod.ext rfl (funext fun q => ?_)))
  simp only [hSet, mW]
  by_cases hq : q = a
  · subst hq
    simp only [if_true, h0]
    exact h1.symm
  · rw [if_neg hq]
    obtain ⟨e1, e2, e3⟩ := uQ_ne (σ := σ) (j := j) (x := x) hq
    cases w.2.2.2[q]? with
    | none => rfl
    | some d => simp only [mE, e1, e2, e3, uQ_fs hq]
theorem pQ_m {w : mT} {σ : mS} {r c : Nat} {x : Option Nat} (h1 : 100 ≤ tg (mL w r)) (h2 : fk (mL w r) c = 3) : hPut (mW w σ) r c (va_rf x) = mW w (uQ σ r c x) := by
  obtain ⟨b, hb⟩ : ∃ b, tg (mL w r) = 100 + b := ⟨tg (mL w r) - 100, by omega⟩
  obtain ⟨n, l, h⟩ : ∃ n l, mL w r = some (100 + b, n, l) := by
    unfold tg at hb
    split at hb
    · rename_i d hc; obtain ⟨t', n, l⟩ := d; simp only at hb; subst hb; exact ⟨n, l, hc⟩
    · omega
  rw [h] at h2
  obtain ⟨q, hq, -⟩ := fk_get h2 (by decide)
  simp only [hPut, hAt_mO h]
  refine uQ_eq (fun d hd => ?_) ⟨_, h⟩
  rw [h] at hd
  cases hd
  have g1 : ¬ (100 + b = 1) := by omega
  have g2 : ¬ (100 + b = 4) := by omega
  have g3 : ¬ (100 + b < 100) := by omega
  have e := uQ_set (σ := σ) (a := r) (x := x) l 0 c q hq
  rw [Nat.zero_add] at e
  simp only [mE, g1, g2, g3, if_false, e, Nat.add_sub_cancel_left]
theorem uI_self {σ : mS} {a k : Nat} {x : Int32} : (uI σ a k x).1 a = upd (σ.1 a) k x := by funext j'; simp [uI, upd]
theorem uL_self {σ : mS} {a k : Nat} {x : Int64} : (uL σ a k x).2.1 a = vp_updL (σ.2.1 a) k x := by funext j'; simp [uL, vp_updL]
theorem uQ_self {σ : mS} {a k : Nat} {x : Option Nat} : (uQ σ a k x).2.2 a = va_up (σ.2.2 a) k x := by funext j'; simp [uQ, va_up]
theorem pR_m {w : mT} {σ : mS} {r c q : Nat} (h1 : 100 ≤ tg (mL w r)) (h2 : fk (mL w r) c = 3) : hPut (mW w σ) r c (.ref q) = mW w (uQ σ r c (some q)) := pQ_m (x := some q) h1 h2
theorem sI_m {w : mT} {σ : mS} {a : Nat} {j x : Int32} (h1 : tg (mL w a) = 0) : stI (mW w σ) a j x = mW w (uI σ a j.toNatClampNeg x) := by
  obtain ⟨n, l, h⟩ := tg_in h1 (by decide)
  simp only [stI, hAt_mI (σ := σ) h (by decide) (by decide) (by decide)]
  refine uI_eq (fun d hd => ?_) ⟨_, h⟩
  rw [h] at hd
  cases hd
  simp [mE, uI_self]
theorem sBy_m {w : mT} {σ : mS} {a : Nat} {j x : Int32} (h1 : tg (mL w a) = 2) : stB (mW w σ) a j x = mW w (uI σ a j.toNatClampNeg (vp_nar .byte x)) := by
  obtain ⟨n, l, h⟩ := tg_in h1 (by decide)
  simp only [stB, hAt_mI (σ := σ) h (by decide) (by decide) (by decide)]
  refine uI_eq (fun d hd => ?_) ⟨_, h⟩
  rw [h] at hd
  cases hd
  simp [mE, uI_self]
theorem sBo_m {w : mT} {σ : mS} {a : Nat} {j x : Int32} (h1 : tg (mL w a) = 3) : stB (mW w σ) a j x = mW w (uI σ a j.toNatClampNeg (vp_nar .boolean x)) := by
  obtain ⟨n, l, h⟩ := tg_in h1 (by decide)
  simp only [stB, hAt_mI (σ := σ) h (by decide) (by decide) (by decide)]
  refine uI_eq (fun d hd => ?_) ⟨_, h⟩
  rw [h] at hd
  cases hd
  simp [mE, uI_self]
theorem sL_m {w : mT} {σ : mS} {a : Nat} {j : Int32} {x : Int64} (h1 : tg (mL w a) = 1) : stLg (mW w σ) a j x = mW w (uL σ a j.toNatClampNeg x) := by
  obtain ⟨n, l, h⟩ := tg_in h1 (by decide)
  simp only [stLg, hAt_mL (σ := σ) h]
  refine uL_eq (fun d hd => ?_) ⟨_, h⟩
  rw [h] at hd
  cases hd
  simp [mE, uL_self]
theorem sQ_m {w : mT} {σ : mS} {a q : Nat} {j : Int32} (h1 : tg (mL w a) = 4) : stQ (mW w σ) a j q = mW w (uQ σ a j.toNatClampNeg (some q)) := by
  obtain ⟨n, l, h⟩ := tg_in h1 (by decide)
  simp only [stQ, hAt_mQ (σ := σ) h]
  refine uQ_eq (fun d hd => ?_) ⟨_, h⟩
  rw [h] at hd
  cases hd
  simp [mE, uQ_self]
def uC (σ : mS) (a0 sp a1 dp n : Nat) : mS := (fun a j => if a = a1 then va_cpy (σ.1 a0) (σ.1 a1) sp dp n j else σ.1 a j, σ.2.1, σ.2.2)
theorem cI_m {w : mT} {σ : mS} {a0 a1 : Nat} {sp dp n : Int32} (h0 : tg (mL w a0) = 0) (h1 : tg (mL w a1) = 0) (hs : 0 ≤ sp) (hd : 0 ≤ dp) (hn : 0 ≤ n) (h3 : sp.toNatClampNeg + n.toNatClampNeg ≤ ln (mL w a0)) (h4 : dp.toNatClampNeg + n.toNatClampNeg ≤ ln (mL w a1)) : cpI (mW w σ) a0 sp a1 dp n ↔ True := by
  obtain ⟨n0, l0, g0⟩ := tg_in h0 (by decide)
  obtain ⟨n1, l1, g1⟩ := tg_in h1 (by decide)
  rw [g0] at h3
  rw [g1] at h4
  have z : ∀ {y : Int32}, 0 ≤ y → ¬ y < 0 := fun {y} h => by
    rw [Int32.lt_iff_toInt_lt]; rw [Int32.le_iff_toInt_le] at h; omega
  exact iff_true_intro ⟨n0, n1, _, _, hAt_mI (σ := σ) g0 (by decide) (by decide) (by decide), hAt_mI (σ := σ) g1 (by decide) (by decide) (by decide), z hs, z hd, z hn, h3, h4⟩
theorem sC_m {w : mT} {σ : mS} {a0 a1 : Nat} {sp dp n : Int32} (h0 : tg (mL w a0) = 0) (h1 : tg (mL w a1) = 0) : cpS (mW w σ) a0 sp a1 dp n = mW w (uC σ a0 sp.toNatClampNeg a1 dp.toNatClampNeg n.toNatClampNeg) := by
  obtain ⟨n0, l0, g0⟩ := tg_in h0 (by decide)
  obtain ⟨n1, l1, g1⟩ := tg_in h1 (by decide)
  simp only [cpS, hAt_mI (σ := σ) g0 (by decide) (by decide) (by decide), hAt_mI (σ := σ) g1 (by decide) (by decide) (by decide)]
  have g1' := g1
  unfold mL at g1
  refine Prod.ext rfl (Prod.ext rfl (Prod.ext rfl (funext fun q => ?_)))
  simp only [hSet, mW]
  by_cases hq : q = a1
  · subst hq
    simp only [if_true, g1]
    simp [mE, uC]
  · rw [if_neg hq]
    have fsE : ∀ (l : List (Nat × Nat)) (i : Nat), mFs (uC σ a0 sp.toNatClampNeg a1 dp.toNatClampNeg n.toNatClampNeg) q i l = mFs σ q i l := by
      intro l
      induction l with
      | nil => intro i; rfl
      | cons k l ih =>
        intro i
        simp only [mFs, ih]
        congr 1
        simp only [mFv, uC, hq, if_false]
    cases w.2.2.2[q]? with
    | none => rfl
    | some d => simp only [mE, fsE]; simp only [uC, hq, if_false]
theorem fst_m {w : mT} {σ : mS} : Prod.fst (mW w σ) = w.2.2.2.length := rfl
theorem hX_m {w : mT} {σ : mS} : hX (mW w σ) = mW (w.1, w.2.1, w.2.2.1 + 1, w.2.2.2) σ := by
  refine Prod.ext rfl (Prod.ext rfl (Prod.ext ?_ rfl))
  show mSz w.2.2.2 + 6 * w.2.2.1 + 6 = mSz w.2.2.2 + 6 * (w.2.2.1 + 1)
  omega
/-- one cell more -/
def mA (w : mT) (c : mC) : mT := (w.1, w.2.1, w.2.2.1, w.2.2.2 ++ [c])
/-- clean from an address on -/
def mZ (σ : mS) (a : Nat) : Prop := ∀ q, a ≤ q → (∀ j, σ.1 q j = 0) ∧ (∀ j, σ.2.1 q j = 0) ∧ ∀ j, σ.2.2 q j = none
theorem mSz_app : ∀ (l l' : List mC), mSz (l ++ l') = mSz l + mSz l'
  | [], l' => by simp [mSz]
  | c :: l, l' => by simp only [List.cons_append, mSz, mSz_app l l']; omega
theorem hNew_m {w : mT} {σ : mS} {c : mC} {e : LE} {n : Nat} (hn : n = c.2.1) (h : mE σ w.2.2.2.length c = e) : hNew (mW w σ) n e = mW (mA w c) σ := by
  subst hn
  refine Prod.ext ?_ (Prod.ext rfl (Prod.ext ?_ (funext fun q => ?_)))
  · simp [hNew, mW, mA]
  · simp only [hNew, mW, mA, mSz_app, mSz]; omega
  · simp only [hNew, mW, mA]
    by_cases hq : q = w.2.2.2.length
    · subst hq
      simp only [if_true, List.getElem?_concat_length]
      exact h.symm
    · simp only [hq, if_false]
      by_cases hl : q < w.2.2.2.length
      · rw [List.getElem?_append_left hl]
      · have h1 : w.2.2.2[q]? = none := List.getElem?_eq_none (by omega)
        have h2 : (w.2.2.2 ++ [c])[q]? = none := List.getElem?_eq_none (by simp; omega)
        rw [h1, h2]
/-- what a run comes to is one thing -/
theorem Wp_det {k pc : Nat} {ls st : List Value} {hp : Hp} {Q Q' : Option (Option Value) → Hp → Prop} {D : Nat} (h : Wp k pc ls st hp Q D) (h' : Wp k pc ls st hp Q' D) : ∃ r h2, Q r h2 ∧ Q' r h2 := by
  obtain ⟨n, r, h1, h2, h3⟩ := h
  obtain ⟨n', r', h1', h2', h3'⟩ := h'
  have e := run_le _ _ _ _ _ _ _ _ h2 (max n n') D (by omega) (Nat.le_refl _)
  have e' := run_le _ _ _ _ _ _ _ _ h2' (max n n') D (by omega) (Nat.le_refl _)
  rw [e] at e'
  cases e'
  exact ⟨_, _, h3, h3'⟩
def kO (kr : Option Value → Hp → Prop) (kt : Hp → Prop) (r : Option (Option Value)) (h : Hp) : Prop := match r with
  | some v => kr v h
  | none => kt h
theorem wpC_iff {D m k : Nat} {as : List Value} {hp hp' : Hp} {r : Option (Option Value)} {kr : Option Value → Hp → Prop} {kt : Hp → Prop} (hx : ∀ d, m ≤ d → ∀ Q : Option (Option Value) → Hp → Prop, Q r hp' → Wp k 0 (enL as (ML k)) [] hp Q d) (hb : Nat.ble (enF as).length (ML k) = true) (hD : m + 1 ≤ D) : wpC D k as hp kr kt ↔ kO kr kt r hp' := by
  obtain ⟨d, rfl⟩ : ∃ d, D = d + 1 := ⟨D - 1, by omega⟩
  have h1 := hx d (by omega)
  constructor
  · rintro ⟨d', hd, -, h2⟩
    obtain rfl : d = d' := by omega
    obtain ⟨r', h3, ⟨e1, e2⟩, h4⟩ := Wp_det (h1 (fun r'' h'' => r'' = r ∧ h'' = hp') ⟨rfl, rfl⟩) h2
    subst e1; subst e2
    exact h4
  · intro h
    exact ⟨d, rfl, hb, h1 _ h⟩
theorem cI_of {m D k : Nat} {as : List Value} {hp hp' : Hp} {x : Int32} {K : Int32 → Hp → Prop} (hx : ∀ d, m ≤ d → ∀ Q : Option (Option Value) → Hp → Prop, Q (some (some (.int x))) hp' → Wp k 0 (enL as (ML k)) [] hp Q d) (hb : Nat.ble (enF as).length (ML k) = true) (hD : m + 1 ≤ D) : wpI D k as hp K ↔ K x hp' := by
  unfold wpI
  rw [wpC_iff hx hb hD]
  constructor
  · rintro ⟨y, e, h⟩; cases e; exact h
  · intro h; exact ⟨x, rfl, h⟩
theorem cL_of {m D k : Nat} {as : List Value} {hp hp' : Hp} {x : Int64} {K : Int64 → Hp → Prop} (hx : ∀ d, m ≤ d → ∀ Q : Option (Option Value) → Hp → Prop, Q (some (some (.long x))) hp' → Wp k 0 (enL as (ML k)) [] hp Q d) (hb : Nat.ble (enF as).length (ML k) = true) (hD : m + 1 ≤ D) : wpL D k as hp K ↔ K x hp' := by
  unfold wpL
  rw [wpC_iff hx hb hD]
  constructor
  · rintro ⟨y, e, h⟩; cases e; exact h
  · intro h; exact ⟨x, rfl, h⟩
theorem cV_of {m D k : Nat} {as : List Value} {hp hp' : Hp} {K : Hp → Prop} (hx : ∀ d, m ≤ d → ∀ Q : Option (Option Value) → Hp → Prop, Q (some none) hp' → Wp k 0 (enL as (ML k)) [] hp Q d) (hb : Nat.ble (enF as).length (ML k) = true) (hD : m + 1 ≤ D) : wpV D k as hp K ↔ K hp' := by
  unfold wpV
  rw [wpC_iff hx hb hD]
  constructor
  · rintro ⟨-, h⟩; exact h
  · intro h; exact ⟨rfl, h⟩
theorem br_ite {c A B : Prop} [Decidable c] : br c A B ↔ if c then A else B := by
  unfold br
  split
  · rename_i h; exact ⟨fun q => q.1 h, fun q => ⟨fun _ => q, fun z => absurd h z⟩⟩
  · rename_i h; exact ⟨fun q => q.2 h, fun q => ⟨fun z => absurd z h, fun _ => q⟩⟩

