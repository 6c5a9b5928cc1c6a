/-! IMAGES, in the reference: four rows put in the place of four -/
def zr4 (y : zX) (a b c d : Nat) (f g h k : Nat → Int32) : zX := zsrI (zsrI (zsrI (zsrI y a f) b g) c h) d k
theorem zr4_s {y : zX} {a b c d j : Nat} {f g h k : Nat → Int32} {p q r s : Int32} (h1 : a ≠ b) (h2 : a ≠ c) (h3 : a ≠ d) (h4 : b ≠ c) (h5 : b ≠ d) (h6 : c ≠ d) : zsI (zsI (zsI (zsI (zr4 y a b c d f g h k) a j p) b j q) c j r) d j s = zr4 y a b c d (upd f j p) (upd g j q) (upd h j r) (upd k j s) := by
  refine Prod.ext (funext fun i => ?_) rfl
  simp only [zr4, zsI, zsrI, zup]
  by_cases e1 : i = d
  · subst e1
    simp [h3.symm, h5.symm, h6.symm]
  · by_cases e2 : i = c
    · subst e2
      simp [h6, h2.symm, h4.symm]
    · by_cases e3 : i = b
      · subst e3
        simp [h5, h4, h1.symm]
      · by_cases e4 : i = a
        · subst e4
          simp [h1, h2, h3]
        · simp [e1, e2, e3, e4]
theorem zr4_0 {y : zX} {a b c d : Nat} (h1 : b ≠ a) (h2 : c ≠ a) (h3 : d ≠ a) (h4 : c ≠ b) (h5 : d ≠ b) (h6 : d ≠ c) : zr4 y a b c d (y.1 a) (y.1 b) (y.1 c) (y.1 d) = y := by
  unfold zr4
  have e1 : zsrI y a (y.1 a) = y := zsrI_e
  rw [e1]
  have e2 : zsrI y b (y.1 b) = y := zsrI_e
  rw [e2]
  have e3 : zsrI y c (y.1 c) = y := zsrI_e
  rw [e3]
  exact zsrI_e
abbrev zbo (f : Nat → Int32) (n : Nat) : Prop := ∀ j, j < n → f j = 0 ∨ f j = 1
def zimg0 (x : zX) : zX := zsI (zsI (zsI (zsI x 77 36 (nI 1)) 77 37 (x.1 77 13)) 77 38 (x.1 77 0)) 77 39 (x.1 77 1)
def zimg1 (x : zX) (n : Nat) : zX := zr4 (zimg0 x) 102 103 104 105 (zputn (x.1 84) (x.1 102) n) (zputn (x.1 85) (x.1 103) n) (zputn (x.1 83) (x.1 104) n) (zputn (x.1 86) (x.1 105) n)
def zimg (x : zX) (n : Nat) : zX := zsrI (zimg1 x 8) 106 (zputn (x.1 87) (x.1 106) n)
def zund0 (x : zX) : zX := zsI (zsI (zsI x 77 13 (x.1 77 37)) 77 0 (x.1 77 38)) 77 1 (x.1 77 39)
def zund1 (x : zX) (n : Nat) : zX := zr4 (zund0 x) 84 85 83 86 (zputn (x.1 102) (x.1 84) n) (zputn (x.1 103) (x.1 85) n) (zputn (x.1 104) (x.1 83) n) (zputn (x.1 105) (x.1 86) n)
def zund (x : zX) (n : Nat) : zX := zsrI (zund1 x 8) 87 (zputn (x.1 106) (x.1 87) n)
