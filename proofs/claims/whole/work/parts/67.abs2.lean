/-! ===== the abstract levy: what both memories say ===== -/
abbrev APh : Type := (Bool) × (Nat → Nat) × (Nat → Nat) × (Nat → Nat) × (Nat → Nat) × (Nat) × (Nat) × (Nat) × (Nat → Nat) × (Nat → Nat) × (Nat) × (Nat) × (Nat) × (Bool) × (Nat) × (Nat)
abbrev APh.beg (x : APh) : Bool := x.1
abbrev APh.A (x : APh) : Nat → Nat := x.2.1
abbrev APh.E (x : APh) : Nat → Nat := x.2.2.1
abbrev APh.R (x : APh) : Nat → Nat := x.2.2.2.1
abbrev APh.La (x : APh) : Nat → Nat := x.2.2.2.2.1
abbrev APh.N (x : APh) : Nat := x.2.2.2.2.2.1
abbrev APh.B (x : APh) : Nat := x.2.2.2.2.2.2.1
abbrev APh.g (x : APh) : Nat := x.2.2.2.2.2.2.2.1
abbrev APh.I (x : APh) : Nat → Nat := x.2.2.2.2.2.2.2.2.1
abbrev APh.O (x : APh) : Nat → Nat := x.2.2.2.2.2.2.2.2.2.1
abbrev APh.P (x : APh) : Nat := x.2.2.2.2.2.2.2.2.2.2.1
abbrev APh.Ld (x : APh) : Nat := x.2.2.2.2.2.2.2.2.2.2.2.1
abbrev APh.Su (x : APh) : Nat := x.2.2.2.2.2.2.2.2.2.2.2.2.1
abbrev APh.br (x : APh) : Bool := x.2.2.2.2.2.2.2.2.2.2.2.2.2.1
abbrev APh.lo (x : APh) : Nat := x.2.2.2.2.2.2.2.2.2.2.2.2.2.2.1
abbrev APh.so (x : APh) : Nat := x.2.2.2.2.2.2.2.2.2.2.2.2.2.2.2
abbrev APh.mk (beg : Bool) (A : Nat → Nat) (E : Nat → Nat) (R : Nat → Nat) (La : Nat → Nat) (N : Nat) (B : Nat) (g : Nat) (I : Nat → Nat) (O : Nat → Nat) (P : Nat) (Ld : Nat) (Su : Nat) (br : Bool) (lo : Nat) (so : Nat) : APh := (beg, A, E, R, La, N, B, g, I, O, P, Ld, Su, br, lo, so)
abbrev ALw : Type := (Nat) × (Nat) × (Nat → Nat) × (Nat → Nat) × (Nat → APh)
abbrev ALw.day (x : ALw) : Nat := x.1
abbrev ALw.n (x : ALw) : Nat := x.2.1
abbrev ALw.rt (x : ALw) : Nat → Nat := x.2.2.1
abbrev ALw.st (x : ALw) : Nat → Nat := x.2.2.2.1
abbrev ALw.ph (x : ALw) : Nat → APh := x.2.2.2.2
abbrev ALw.mk (day : Nat) (n : Nat) (rt : Nat → Nat) (st : Nat → Nat) (ph : Nat → APh) : ALw := (day, n, rt, st, ph)
def chg (x : APh) : Nat := sN (fun u => x.A u * x.R u) 4
def rlf (x : APh) : Nat := sN (fun u => x.E u * x.R u - x.La u) 4
def lps (x : APh) : Nat := sN x.La 4
def owd (x : APh) : Nat := x.lo + x.so + sN x.O x.N
def dueA (D : Nat) (x : APh) : Nat := if x.br = true then owd x else x.lo + sN (fun k => if x.B + (k + 1) * x.g ≤ D then x.O k else 0) x.N
def canB (x : APh) : Bool := x.beg && !x.br && decide (cZ x.O x.N < x.N)
def fdu (x : APh) : Nat := x.B + (cZ x.O x.N + 1) * x.g
def surA (pct : Nat) (x : APh) : Nat := owd x * pct / 100
def roomA (pct : Nat) (x : APh) : Nat := if x.beg = true then (chg x - rlf x) * pct / 100 - x.Ld else 0
def CP (μ : Mem) (i p : Nat) (x : APh) : Prop := (∀ u, u < 4 → μ.1 9 i p u = nI (x.A u)) ∧ (∀ u, u < 4 → μ.1 10 i p u = nI (x.E u)) ∧ (∀ u, u < 4 → μ.1 11 i p u = nI (x.R u)) ∧ (∀ u, u < 4 → μ.1 12 i p u = nI (x.La u)) ∧ (μ.1 8 i p 6 = cond x.beg (nI x.B) (-1)) ∧ (x.beg = true → μ.1 8 i p 7 = nI x.g) ∧ (μ.1 8 i p 8 = nI x.N) ∧ (μ.1 8 i p 9 = nI x.P) ∧ (μ.1 8 i p 10 = nI x.Ld) ∧ (μ.1 8 i p 11 = nI x.Su) ∧ (μ.1 8 i p 12 = nI (cond x.br 1 0)) ∧ (∀ k, k < x.N → μ.1 13 i p k = nI (x.I k)) ∧ (∀ k, k < x.N → μ.1 14 i p k = nI (x.O k))
theorem CP.mk {μ : Mem} {i p : Nat} {x : APh} (f_A : ∀ u, u < 4 → μ.1 9 i p u = nI (x.A u)) (f_E : ∀ u, u < 4 → μ.1 10 i p u = nI (x.E u)) (f_R : ∀ u, u < 4 → μ.1 11 i p u = nI (x.R u)) (f_La : ∀ u, u < 4 → μ.1 12 i p u = nI (x.La u)) (f_b : μ.1 8 i p 6 = cond x.beg (nI x.B) (-1)) (f_g : x.beg = true → μ.1 8 i p 7 = nI x.g) (f_N : μ.1 8 i p 8 = nI x.N) (f_P : μ.1 8 i p 9 = nI x.P) (f_Ld : μ.1 8 i p 10 = nI x.Ld) (f_Su : μ.1 8 i p 11 = nI x.Su) (f_br : μ.1 8 i p 12 = nI (cond x.br 1 0)) (f_I : ∀ k, k < x.N → μ.1 13 i p k = nI (x.I k)) (f_O : ∀ k, k < x.N → μ.1 14 i p k = nI (x.O k)) : CP μ i p x := ⟨f_A, f_E, f_R, f_La, f_b, f_g, f_N, f_P, f_Ld, f_Su, f_br, f_I, f_O⟩
theorem CP.A {μ : Mem} {i p : Nat} {x : APh} (h : CP μ i p x) : ∀ u, u < 4 → μ.1 9 i p u = nI (x.A u) := h.1
theorem CP.E {μ : Mem} {i p : Nat} {x : APh} (h : CP μ i p x) : ∀ u, u < 4 → μ.1 10 i p u = nI (x.E u) := h.2.1
theorem CP.R {μ : Mem} {i p : Nat} {x : APh} (h : CP μ i p x) : ∀ u, u < 4 → μ.1 11 i p u = nI (x.R u) := h.2.2.1
theorem CP.La {μ : Mem} {i p : Nat} {x : APh} (h : CP μ i p x) : ∀ u, u < 4 → μ.1 12 i p u = nI (x.La u) := h.2.2.2.1
theorem CP.b {μ : Mem} {i p : Nat} {x : APh} (h : CP μ i p x) : μ.1 8 i p 6 = cond x.beg (nI x.B) (-1) := h.2.2.2.2.1
theorem CP.g {μ : Mem} {i p : Nat} {x : APh} (h : CP μ i p x) : x.beg = true → μ.1 8 i p 7 = nI x.g := h.2.2.2.2.2.1
theorem CP.N {μ : Mem} {i p : Nat} {x : APh} (h : CP μ i p x) : μ.1 8 i p 8 = nI x.N := h.2.2.2.2.2.2.1
theorem CP.P {μ : Mem} {i p : Nat} {x : APh} (h : CP μ i p x) : μ.1 8 i p 9 = nI x.P := h.2.2.2.2.2.2.2.1
theorem CP.Ld {μ : Mem} {i p : Nat} {x : APh} (h : CP μ i p x) : μ.1 8 i p 10 = nI x.Ld := h.2.2.2.2.2.2.2.2.1
theorem CP.Su {μ : Mem} {i p : Nat} {x : APh} (h : CP μ i p x) : μ.1 8 i p 11 = nI x.Su := h.2.2.2.2.2.2.2.2.2.1
theorem CP.br {μ : Mem} {i p : Nat} {x : APh} (h : CP μ i p x) : μ.1 8 i p 12 = nI (cond x.br 1 0) := h.2.2.2.2.2.2.2.2.2.2.1
theorem CP.I {μ : Mem} {i p : Nat} {x : APh} (h : CP μ i p x) : ∀ k, k < x.N → μ.1 13 i p k = nI (x.I k) := h.2.2.2.2.2.2.2.2.2.2.2.1
theorem CP.O {μ : Mem} {i p : Nat} {x : APh} (h : CP μ i p x) : ∀ k, k < x.N → μ.1 14 i p k = nI (x.O k) := h.2.2.2.2.2.2.2.2.2.2.2.2
def MP (z : Zr) (p : Nat) (x : APh) : Prop := (∀ u, u < 4 → mo z p (1 + u) = nI (x.A u)) ∧ (∀ u, u < 4 → mo z p (5 + u) = nI (x.E u)) ∧ (x.beg = true → ∀ u, u < 4 → mo z p (9 + u) = nI (x.R u)) ∧ (x.beg = true → ∀ u, u < 4 → mo z p (13 + u) = nI (x.E u * x.R u - x.La u)) ∧ (mo z p 0 = cond x.beg (nI x.B) (-1)) ∧ (mo z p 17 = nI x.N) ∧ (∀ k, k < x.N → mo z p (18 + k) = nI (x.I k)) ∧ (∀ k, k < x.N → mo z p (22 + k) = nI (x.O k)) ∧ (∀ k, k < x.N → mo z p (26 + k) = nI (x.B + (k + 1) * x.g)) ∧ (mo z p 30 = nI x.lo) ∧ (mo z p 31 = nI (lps x)) ∧ (mo z p 32 = nI x.Su) ∧ (mo z p 33 = nI x.so) ∧ (mo z p 34 = nI x.P) ∧ (mo z p 35 = nI x.Ld) ∧ (mo z p 36 = nI (cond x.br 1 0))
theorem MP.mk {z : Zr} {p : Nat} {x : APh} (f_A : ∀ u, u < 4 → mo z p (1 + u) = nI (x.A u)) (f_E : ∀ u, u < 4 → mo z p (5 + u) = nI (x.E u)) (f_R : x.beg = true → ∀ u, u < 4 → mo z p (9 + u) = nI (x.R u)) (f_re : x.beg = true → ∀ u, u < 4 → mo z p (13 + u) = nI (x.E u * x.R u - x.La u)) (f_b : mo z p 0 = cond x.beg (nI x.B) (-1)) (f_N : mo z p 17 = nI x.N) (f_I : ∀ k, k < x.N → mo z p (18 + k) = nI (x.I k)) (f_O : ∀ k, k < x.N → mo z p (22 + k) = nI (x.O k)) (f_D : ∀ k, k < x.N → mo z p (26 + k) = nI (x.B + (k + 1) * x.g)) (f_lo : mo z p 30 = nI x.lo) (f_la : mo z p 31 = nI (lps x)) (f_Su : mo z p 32 = nI x.Su) (f_so : mo z p 33 = nI x.so) (f_P : mo z p 34 = nI x.P) (f_Ld : mo z p 35 = nI x.Ld) (f_br : mo z p 36 = nI (cond x.br 1 0)) : MP z p x := ⟨f_A, f_E, f_R, f_re, f_b, f_N, f_I, f_O, f_D, f_lo, f_la, f_Su, f_so, f_P, f_Ld, f_br⟩
theorem MP.A {z : Zr} {p : Nat} {x : APh} (h : MP z p x) : ∀ u, u < 4 → mo z p (1 + u) = nI (x.A u) := h.1
theorem MP.E {z : Zr} {p : Nat} {x : APh} (h : MP z p x) : ∀ u, u < 4 → mo z p (5 + u) = nI (x.E u) := h.2.1
theorem MP.R {z : Zr} {p : Nat} {x : APh} (h : MP z p x) : x.beg = true → ∀ u, u < 4 → mo z p (9 + u) = nI (x.R u) := h.2.2.1
theorem MP.re {z : Zr} {p : Nat} {x : APh} (h : MP z p x) : x.beg = true → ∀ u, u < 4 → mo z p (13 + u) = nI (x.E u * x.R u - x.La u) := h.2.2.2.1
theorem MP.b {z : Zr} {p : Nat} {x : APh} (h : MP z p x) : mo z p 0 = cond x.beg (nI x.B) (-1) := h.2.2.2.2.1
theorem MP.N {z : Zr} {p : Nat} {x : APh} (h : MP z p x) : mo z p 17 = nI x.N := h.2.2.2.2.2.1
theorem MP.I {z : Zr} {p : Nat} {x : APh} (h : MP z p x) : ∀ k, k < x.N → mo z p (18 + k) = nI (x.I k) := h.2.2.2.2.2.2.1
theorem MP.O {z : Zr} {p : Nat} {x : APh} (h : MP z p x) : ∀ k, k < x.N → mo z p (22 + k) = nI (x.O k) := h.2.2.2.2.2.2.2.1
theorem MP.D {z : Zr} {p : Nat} {x : APh} (h : MP z p x) : ∀ k, k < x.N → mo z p (26 + k) = nI (x.B + (k + 1) * x.g) := h.2.2.2.2.2.2.2.2.1
theorem MP.lo {z : Zr} {p : Nat} {x : APh} (h : MP z p x) : mo z p 30 = nI x.lo := h.2.2.2.2.2.2.2.2.2.1
theorem MP.la {z : Zr} {p : Nat} {x : APh} (h : MP z p x) : mo z p 31 = nI (lps x) := h.2.2.2.2.2.2.2.2.2.2.1
theorem MP.Su {z : Zr} {p : Nat} {x : APh} (h : MP z p x) : mo z p 32 = nI x.Su := h.2.2.2.2.2.2.2.2.2.2.2.1
theorem MP.so {z : Zr} {p : Nat} {x : APh} (h : MP z p x) : mo z p 33 = nI x.so := h.2.2.2.2.2.2.2.2.2.2.2.2.1
theorem MP.P {z : Zr} {p : Nat} {x : APh} (h : MP z p x) : mo z p 34 = nI x.P := h.2.2.2.2.2.2.2.2.2.2.2.2.2.1
theorem MP.Ld {z : Zr} {p : Nat} {x : APh} (h : MP z p x) : mo z p 35 = nI x.Ld := h.2.2.2.2.2.2.2.2.2.2.2.2.2.2.1
theorem MP.br {z : Zr} {p : Nat} {x : APh} (h : MP z p x) : mo z p 36 = nI (cond x.br 1 0) := h.2.2.2.2.2.2.2.2.2.2.2.2.2.2.2
def OP (day n p : Nat) (rt : Nat → Nat) (x : APh) : Prop := (∀ u, u < 4 → x.A u ≤ 999) ∧ (∀ u, u < 4 → x.E u ≤ x.A u) ∧ (∀ u, u < 4 → x.R u ≤ 999) ∧ (∀ u, u < 4 → x.La u ≤ x.E u * x.R u) ∧ (n ≤ p → x.beg = false ∧ ∀ u, u < 4 → x.A u = 0) ∧ (x.beg = false → x.N = 0 ∧ (∀ u, u < 4 → x.La u = 0) ∧ x.P = 0 ∧ x.Ld = 0 ∧ x.Su = 0 ∧ x.br = false ∧ x.lo = 0 ∧ x.so = 0) ∧ (x.beg = false → p < n → ∀ u, u < 4 → x.R u = rt u) ∧ (x.beg = true → x.B ≤ day ∧ x.B ≤ 9999 ∧ 1 ≤ x.N ∧ x.N ≤ 4 ∧ 1 ≤ x.g ∧ x.g ≤ 120 ∧ chg x + x.Su = rlf x + x.P + x.Ld + owd x) ∧ (∀ j k, j < k → k < x.N → x.O k = 0 → x.O j = 0) ∧ (x.beg = true → x.br = false → ∀ k, k < x.N → 0 < x.O k → day ≤ x.B + (k + 1) * x.g) ∧ (x.br = false → x.Su = 0 ∧ x.so = 0) ∧ (x.Su ≤ 1996002)
theorem OP.mk {day n p : Nat} {rt : Nat → Nat} {x : APh} (f_hA : ∀ u, u < 4 → x.A u ≤ 999) (f_hE : ∀ u, u < 4 → x.E u ≤ x.A u) (f_hR : ∀ u, u < 4 → x.R u ≤ 999) (f_hL : ∀ u, u < 4 → x.La u ≤ x.E u * x.R u) (f_blank : n ≤ p → x.beg = false ∧ ∀ u, u < 4 → x.A u = 0) (f_un : x.beg = false → x.N = 0 ∧ (∀ u, u < 4 → x.La u = 0) ∧ x.P = 0 ∧ x.Ld = 0 ∧ x.Su = 0 ∧ x.br = false ∧ x.lo = 0 ∧ x.so = 0) (f_rt : x.beg = false → p < n → ∀ u, u < 4 → x.R u = rt u) (f_bg : x.beg = true → x.B ≤ day ∧ x.B ≤ 9999 ∧ 1 ≤ x.N ∧ x.N ≤ 4 ∧ 1 ≤ x.g ∧ x.g ≤ 120 ∧ chg x + x.Su = rlf x + x.P + x.Ld + owd x) (f_sh : ∀ j k, j < k → k < x.N → x.O k = 0 → x.O j = 0) (f_du : x.beg = true → x.br = false → ∀ k, k < x.N → 0 < x.O k → day ≤ x.B + (k + 1) * x.g) (f_un2 : x.br = false → x.Su = 0 ∧ x.so = 0) (f_su : x.Su ≤ 1996002) : OP day n p rt x := ⟨f_hA, f_hE, f_hR, f_hL, f_blank, f_un, f_rt, f_bg, f_sh, f_du, f_un2, f_su⟩
theorem OP.hA {day n p : Nat} {rt : Nat → Nat} {x : APh} (h : OP day n p rt x) : ∀ u, u < 4 → x.A u ≤ 999 := h.1
theorem OP.hE {day n p : Nat} {rt : Nat → Nat} {x : APh} (h : OP day n p rt x) : ∀ u, u < 4 → x.E u ≤ x.A u := h.2.1
theorem OP.hR {day n p : Nat} {rt : Nat → Nat} {x : APh} (h : OP day n p rt x) : ∀ u, u < 4 → x.R u ≤ 999 := h.2.2.1
theorem OP.hL {day n p : Nat} {rt : Nat → Nat} {x : APh} (h : OP day n p rt x) : ∀ u, u < 4 → x.La u ≤ x.E u * x.R u := h.2.2.2.1
theorem OP.blank {day n p : Nat} {rt : Nat → Nat} {x : APh} (h : OP day n p rt x) : n ≤ p → x.beg = false ∧ ∀ u, u < 4 → x.A u = 0 := h.2.2.2.2.1
theorem OP.un {day n p : Nat} {rt : Nat → Nat} {x : APh} (h : OP day n p rt x) : x.beg = false → x.N = 0 ∧ (∀ u, u < 4 → x.La u = 0) ∧ x.P = 0 ∧ x.Ld = 0 ∧ x.Su = 0 ∧ x.br = false ∧ x.lo = 0 ∧ x.so = 0 := h.2.2.2.2.2.1
theorem OP.rt {day n p : Nat} {rt : Nat → Nat} {x : APh} (h : OP day n p rt x) : x.beg = false → p < n → ∀ u, u < 4 → x.R u = rt u := h.2.2.2.2.2.2.1
theorem OP.bg {day n p : Nat} {rt : Nat → Nat} {x : APh} (h : OP day n p rt x) : x.beg = true → x.B ≤ day ∧ x.B ≤ 9999 ∧ 1 ≤ x.N ∧ x.N ≤ 4 ∧ 1 ≤ x.g ∧ x.g ≤ 120 ∧ chg x + x.Su = rlf x + x.P + x.Ld + owd x := h.2.2.2.2.2.2.2.1
theorem OP.sh {day n p : Nat} {rt : Nat → Nat} {x : APh} (h : OP day n p rt x) : ∀ j k, j < k → k < x.N → x.O k = 0 → x.O j = 0 := h.2.2.2.2.2.2.2.2.1
theorem OP.du {day n p : Nat} {rt : Nat → Nat} {x : APh} (h : OP day n p rt x) : x.beg = true → x.br = false → ∀ k, k < x.N → 0 < x.O k → day ≤ x.B + (k + 1) * x.g := h.2.2.2.2.2.2.2.2.2.1
theorem OP.un2 {day n p : Nat} {rt : Nat → Nat} {x : APh} (h : OP day n p rt x) : x.br = false → x.Su = 0 ∧ x.so = 0 := h.2.2.2.2.2.2.2.2.2.2.1
theorem OP.su {day n p : Nat} {rt : Nat → Nat} {x : APh} (h : OP day n p rt x) : x.Su ≤ 1996002 := h.2.2.2.2.2.2.2.2.2.2.2
theorem OP.N4 {day n p : Nat} {rt : Nat → Nat} {x : APh} (h : OP day n p rt x) : x.N ≤ 4 := by
  cases e : x.beg with
  | false => rw [(h.un e).1]; omega
  | true => exact (h.bg e).2.2.2.1
theorem OP.chg_le {day n p : Nat} {rt : Nat → Nat} {x : APh} (h : OP day n p rt x) : chg x ≤ 3992004 := by
  have h1 : ∀ u, u < 4 → x.A u * x.R u ≤ 998001 := fun u hu => Nat.mul_le_mul (h.hA u hu) (h.hR u hu)
  have h2 := sN_le (f := fun u => x.A u * x.R u) (g := fun _ => 998001) 4 h1
  exact Nat.le_trans h2 (by decide)
theorem OP.rlf_le {day n p : Nat} {rt : Nat → Nat} {x : APh} (h : OP day n p rt x) : rlf x ≤ chg x :=
  sN_le 4 fun u hu => Nat.le_trans (Nat.sub_le _ _) (Nat.mul_le_mul_right _ (h.hE u hu))
theorem OP.owd_le {day n p : Nat} {rt : Nat → Nat} {x : APh} (h : OP day n p rt x) : owd x ≤ 5988006 := by
  cases e : x.beg with
  | false =>
    obtain ⟨h1, -, -, -, -, -, h2, h3⟩ := h.un e
    unfold owd
    rw [h1, h2, h3]
    exact Nat.zero_le _
  | true =>
    have h1 := (h.bg e).2.2.2.2.2.2
    have h2 := h.chg_le
    have h3 := h.su
    omega
theorem OP.O_le {day n p : Nat} {rt : Nat → Nat} {x : APh} (h : OP day n p rt x) {k : Nat} (hk : k < x.N) : x.O k ≤ 5988006 := by
  have h1 := sN_one (f := x.O) hk
  have h2 := h.owd_le
  unfold owd at h2
  omega
theorem OP.sO_le {day n p : Nat} {rt : Nat → Nat} {x : APh} (h : OP day n p rt x) : x.lo + x.so + sN x.O x.N ≤ 5988006 := h.owd_le
theorem OP.owd_br {day n p : Nat} {rt : Nat → Nat} {x : APh} (h : OP day n p rt x) (hb : x.br = false) : owd x ≤ 3992004 := by
  cases e : x.beg with
  | false =>
    obtain ⟨h1, -, -, -, -, -, h2, h3⟩ := h.un e
    unfold owd
    rw [h1, h2, h3]
    exact Nat.zero_le _
  | true =>
    have h1 := (h.bg e).2.2.2.2.2.2
    have h2 := h.chg_le
    have h3 := h.un2 hb
    omega
theorem OP.area_le {day n p : Nat} {rt : Nat → Nat} {x : APh} (h : OP day n p rt x) : sN x.A 4 ≤ 3996 := by
  have h2 := sN_le (f := x.A) (g := fun _ => 999) 4 h.hA
  exact Nat.le_trans h2 (by decide)
theorem OP.fdu_le {day n p : Nat} {rt : Nat → Nat} {x : APh} (h : OP day n p rt x) (hb : x.beg = true) {k : Nat} (hk : k ≤ x.N) : x.B + (k + 1) * x.g ≤ 10599 := by
  have h1 := (h.bg hb).2
  have h2 : (k + 1) * x.g ≤ 5 * 120 := Nat.mul_le_mul (by omega) h1.2.2.2.2.1
  omega
theorem owd_z {day n p : Nat} {rt : Nat → Nat} {x : APh} (h : OP day n p rt x) (hb : x.beg = false) : owd x = 0 := by
  obtain ⟨h1, -, -, -, -, -, h2, h3⟩ := h.un hb
  unfold owd
  rw [h1, h2, h3]
  rfl
theorem canB_iff {x : APh} : canB x = true ↔ x.beg = true ∧ x.br = false ∧ cZ x.O x.N < x.N := by
  unfold canB
  cases x.beg <;> cases x.br <;> simp
theorem fdu_day {day n p : Nat} {rt : Nat → Nat} {x : APh} (h : OP day n p rt x) (hc : canB x = true) : day ≤ fdu x := by
  obtain ⟨h1, h2, h3⟩ := canB_iff.mp hc
  refine h.du h1 h2 _ h3 (Nat.pos_of_ne_zero fun q => ?_)
  exact absurd ((cZ_sh _ h.sh _ h3).mp q) (Nat.lt_irrefl _)
theorem due_split (f : Nat → Nat) (b : Nat → Prop) [DecidablePred b] (n : Nat) : sN (fun k => if b k then f k else 0) n + sN (fun k => if b k then 0 else f k) n = sN f n := by
  rw [← sN_add]
  exact sN_ext n fun k _ => by by_cases q : b k <;> simp [q]
/-! the class's words -/
section CWORDS
variable {μ : Mem} {i p day n : Nat} {rt : Nat → Nat} {x : APh}
theorem cw_begun (hC : CP μ i p x) (hO : OP day n p rt x) : cBegun μ i p = x.beg := by
  unfold cBegun
  rw [hC.b]
  cases e : x.beg with
  | false => rfl
  | true =>
    have h := (hO.bg e).2.1
    rw [decide_eq_false (show ¬ (cond true (nI x.B) (-1) = -1) from nI_m1 (by omega))]
    rfl
theorem cw_chg (hC : CP μ i p x) (hO : OP day n p rt x) : cCharge μ i p = nI (chg x) := sumI_nI 4 fun u hu => by rw [hC.A u hu, hC.R u hu, nI_mul]
theorem cw_rel (hC : CP μ i p x) (hO : OP day n p rt x) {u : Nat} (hu : u < 4) : cRel μ i p u = nI (x.E u * x.R u - x.La u) := by
  unfold cRel
  rw [hC.E u hu, hC.R u hu, hC.La u hu, nI_mul, pk_sub (hO.hL u hu)]
theorem cw_rlf (hC : CP μ i p x) (hO : OP day n p rt x) : cRelief μ i p = nI (rlf x) := sumI_nI 4 fun u hu => cw_rel hC hO hu
theorem cw_lps (hC : CP μ i p x) (hO : OP day n p rt x) : cLapsed μ i p = nI (lps x) := sumI_nI 4 fun u hu => hC.La u hu
theorem cw_area (hC : CP μ i p x) (hO : OP day n p rt x) : cArea μ i p = nI (sN x.A 4) := sumI_nI 4 fun u hu => hC.A u hu
theorem cw_sum (hC : CP μ i p x) (hO : OP day n p rt x) : cSum μ i p = nI (chg x - rlf x) := by
  unfold cSum
  rw [cw_chg hC hO, cw_rlf hC hO, pk_sub hO.rlf_le]
theorem cw_owed (hC : CP μ i p x) (hO : OP day n p rt x) : cOwed μ i p = nI (owd x) := by
  unfold cOwed
  rw [cw_begun hC hO]
  cases e : x.beg with
  | false => rw [owd_z hO e]; rfl
  | true =>
    have h := (hO.bg e).2.2.2.2.2.2
    have h2 := hO.rlf_le
    show cCharge μ i p - cRelief μ i p + μ.1 8 i p 11 - μ.1 8 i p 9 - μ.1 8 i p 10 = _
    rw [cw_chg hC hO, cw_rlf hC hO, hC.Su, hC.P, hC.Ld, pk_sub h2, nI_add, pk_sub (by omega), pk_sub (by omega)]
    congr 1
    omega
theorem cw_ins (hC : CP μ i p x) (hO : OP day n p rt x) : insN μ i p = x.N := by
  unfold insN
  rw [hC.N, nI_clamp]
  have := hO.N4
  omega
theorem cw_last (hC : CP μ i p x) (hO : OP day n p rt x) (hb : x.beg = true) (k : Nat) : cLast μ i p (nI k) = nI (x.B + (k + 1) * x.g) := by
  unfold cLast
  rw [hC.b, hC.g hb, hb]
  show nI x.B + (nI k + nI 1) * nI x.g = _
  rw [nI_add, nI_mul, nI_add]
theorem cw_brk (hC : CP μ i p x) (hO : OP day n p rt x) : (μ.1 8 i p 12 = 0) ↔ x.br = false := by
  rw [hC.br, ← nI_0]
  cases x.br
  · exact ⟨fun _ => rfl, fun _ => rfl⟩
  · exact ⟨fun q => absurd q (by decide), fun q => absurd q (by decide)⟩
theorem cw_notdue (hC : CP μ i p x) (hO : OP day n p rt x) {D : Nat} (hD : D < 2 ^ 30) : cNotDue μ i p (nI D) x.N = nI (sN (fun k => if x.B + (k + 1) * x.g ≤ D then 0 else x.O k) x.N) := by
  unfold cNotDue
  cases e : x.beg with
  | false => rw [(hO.un e).1]; rfl
  | true =>
    rw [sumB_nI (g := x.O) x.N fun k hk _ => hC.O k hk]
    congr 1
    refine sN_ext x.N fun k hk => ?_
    have h9 := hO.fdu_le e (Nat.le_of_lt hk)
    by_cases q : x.B + (k + 1) * x.g ≤ D
    · rw [if_pos q, cw_last hC hO e, decide_eq_true ((nI_leI (by omega) (by omega)).mpr q)]
      rfl
    · rw [if_neg q, cw_last hC hO e, decide_eq_false (fun z => q ((nI_leI (by omega) (by omega)).mp z))]
      rfl
theorem cw_due (hC : CP μ i p x) (hO : OP day n p rt x) {D : Nat} (hD : D < 2 ^ 30) : cDueOn μ i p x.N (nI D) = nI (dueA D x) := by
  unfold cDueOn dueA
  by_cases q : x.br = false
  · rw [decide_eq_true ((cw_brk hC hO).mpr q), q]
    show cOwed μ i p - cNotDue μ i p (nI D) x.N = nI (x.lo + sN _ x.N)
    rw [cw_owed hC hO, cw_notdue hC hO hD]
    have h1 := due_split x.O (fun k => x.B + (k + 1) * x.g ≤ D) x.N
    have h2 := (hO.un2 q).2
    unfold owd
    rw [pk_sub (by omega)]
    congr 1
    omega
  · rw [decide_eq_false (fun z => q ((cw_brk hC hO).mp z)), if_pos (by simpa using q)]
    exact cw_owed hC hO
theorem cw_whole (hC : CP μ i p x) (hO : OP day n p rt x) : cWhole μ i p x.N = cZ x.O x.N := cntZ_nI x.N fun k hk => ⟨hC.O k hk, by have := hO.O_le hk; omega⟩
theorem cw_break (hC : CP μ i p x) (hO : OP day n p rt x) : cBreak μ i p x.N = cond (canB x) (nI (fdu x + 1)) (-1) := by
  unfold cBreak
  rw [cw_whole hC hO]
  cases e : x.beg with
  | false =>
    have h0 := (hO.un e).1
    have hc : canB x = false := by unfold canB; rw [e]; rfl
    rw [hc, h0, decide_eq_false (show ¬ cZ x.O 0 < 0 by omega), Bool.and_false]
    rfl
  | true =>
    have hc : (decide (μ.1 8 i p 12 = 0) && decide (cZ x.O x.N < x.N)) = canB x := by
      unfold canB
      rw [e]
      cases hb : x.br with
      | false => rw [decide_eq_true ((cw_brk hC hO).mpr hb)]; rfl
      | true => rw [decide_eq_false (fun q => by rw [(cw_brk hC hO).mp q] at hb; exact absurd hb (by decide))]; rfl
    rw [hc, cw_last hC hO e, nI_add]
    rfl
theorem cw_days (hC : CP μ i p x) (hO : OP day n p rt x) (hd : μ.1 4 i 0 0 = nI day) (h99 : day ≤ 9999) : cDays μ i p x.N = cond (canB x) (nI (fdu x + 1 - day)) (-1) := by
  unfold cDays
  rw [cw_break hC hO]
  cases e : canB x with
  | false =>
    show cond (decide ((-1 : Int32) = -1)) (-1) _ = -1
    rw [decide_eq_true rfl]
    rfl
  | true =>
    have h1 := fdu_day hO e
    obtain ⟨h2, -, h4⟩ := canB_iff.mp e
    have h3 : fdu x ≤ 10599 := hO.fdu_le h2 (Nat.le_of_lt h4)
    show cond (decide (nI (fdu x + 1) = -1)) (-1) (nI (fdu x + 1) - μ.1 4 i 0 0) = nI _
    rw [decide_eq_false (nI_m1 (by omega)), hd]
    show nI (fdu x + 1) - nI day = _
    rw [pk_sub (by omega)]
theorem cw_within (hC : CP μ i p x) (hO : OP day n p rt x) (hd : μ.1 4 i 0 0 = nI day) {d : Nat} (hD : d < 2 ^ 30) : cWithin μ i p x.N (nI d) = (canB x && decide (fdu x + 1 ≤ day + d)) := by
  unfold cWithin
  rw [cw_break hC hO]
  cases e : canB x with
  | false =>
    show (!(decide ((-1 : Int32) = -1)) && _) = false
    rw [decide_eq_true rfl]
    rfl
  | true =>
    have h1 := fdu_day hO e
    obtain ⟨h2, -, h4⟩ := canB_iff.mp e
    have h3 : fdu x ≤ 10599 := hO.fdu_le h2 (Nat.le_of_lt h4)
    show (!(decide (nI (fdu x + 1) = -1)) && !(decide (nI d < nI (fdu x + 1) - μ.1 4 i 0 0))) = _
    rw [decide_eq_false (nI_m1 (by omega)), hd, pk_sub (by omega)]
    by_cases q : fdu x + 1 ≤ day + d
    · rw [decide_eq_true q, decide_eq_false (fun z => absurd ((nI_ltI (by omega) (by omega)).mp z) (by omega))]; rfl
    · rw [decide_eq_false q, decide_eq_true ((nI_ltI (by omega) (by omega)).mpr (by omega))]; rfl
theorem cw_surW (hC : CP μ i p x) (hO : OP day n p rt x) (hd : μ.1 4 i 0 0 = nI day) {d pct : Nat} (hD : d < 2 ^ 30) (hp : μ.1 6 i 0 1 = nI pct) (hpc : pct ≤ 50) : cSurW μ i p x.N (nI d) = nI (if (canB x && decide (fdu x + 1 ≤ day + d)) = true then surA pct x else 0) := by
  unfold cSurW
  rw [cw_within hC hO hd hD, hp, cw_owed hC hO, pct_i (a := owd x) (b := pct) (Nat.lt_of_le_of_lt (Nat.mul_le_mul hO.owd_le hpc) (by decide))]
  cases (canB x && decide (fdu x + 1 ≤ day + d)) <;> rfl
theorem cw_room (hC : CP μ i p x) (hO : OP day n p rt x) {pct : Nat} (hpc : pct ≤ 100) : cRoom μ i p (nI pct) = nI (roomA pct x) := by
  unfold cRoom roomA
  rw [cw_begun hC hO]
  cases e : x.beg with
  | false => rfl
  | true =>
    have h1 := hO.chg_le
    have h2 := hO.rlf_le
    have h3 := (hO.bg e).2.2.2.2.2.2
    have h4 := hO.su
    have h5 : (chg x - rlf x) * pct ≤ 3992004 * 100 := Nat.mul_le_mul (by omega) hpc
    show maxi (nI 0) (pctV (nI pct) (cCharge μ i p - cRelief μ i p) - μ.1 8 i p 10) = nI _
    rw [cw_chg hC hO, cw_rlf hC hO, pk_sub h2, pct_i (by omega), hC.Ld]
    unfold maxi
    rw [if_pos rfl]
    by_cases q : (chg x - rlf x) * pct / 100 ≤ x.Ld
    · rw [if_neg, Nat.sub_eq_zero_of_le q]
      intro z
      rw [Int32.lt_iff_toInt_lt, pk_sub_toInt (by omega) (by omega), nI_toInt (by decide)] at z
      omega
    · rw [if_pos, pk_sub (by omega)]
      rw [Int32.lt_iff_toInt_lt, pk_sub_toInt (by omega) (by omega), nI_toInt (by decide)]
      omega
end CWORDS
