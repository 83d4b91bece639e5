/-! Tokens.wordOf by hand: it goes over the signs of a String constant -/
theorem jd_X9_wordOf : yX9_wordOf.cls ≠ "java/lang/invoke/MethodHandle" ∧ yX9_wordOf.cls ≠ "java/lang/invoke/VarHandle" ∧ (parseMethodDescriptor yX9_wordOf.desc).map (fun d => d.parameters.length) = some 3 := by decide +kernel
abbrev rmX9_wordOf : Room := { frames := 8, cells := 0, slots := 0, locals := 400 }
abbrev wqX9_wordOf : List Cond := .code yX9_wordOf cX9_wordOf 7 (some .int) :: wsL_law
def fX9_wordOf_l (M : QM) (x1 x2 : Int32) : List Int32 → Int32 → Int32 → Option (Int32 × QM)
  | [], _, _ => some (32, M)
  | c :: cs, w, a => if c = 32 then (if a = x2 - x1 then some (w, M) else fX9_wordOf_l M x1 x2 cs (w + 1) 0)
    else if a < 0 then fX9_wordOf_l M x1 x2 cs w a
    else q_b (fX8_byteAt M (x1 + a)) fun r _ => fX9_wordOf_l M x1 x2 cs w (if r = c then a + 1 else -1)
def q_words : List Int32 := [115, 108, 105, 103, 104, 116, 32, 98, 97, 99, 107, 32, 114, 101, 102, 117, 115, 101, 32, 97, 115, 107, 32, 104, 111, 117, 114, 115, 32, 109, 117, 115, 116, 32, 108, 111, 111, 107, 32, 119, 111, 114, 100, 32, 108, 105, 101, 32, 98, 108, 111, 119, 32, 98, 111, 119, 32, 115, 111, 114, 114, 121, 32, 108, 101, 116, 116, 101, 114, 32, 112, 117, 98, 108, 105, 99, 32, 105, 102, 32, 111, 114, 32, 97, 110, 100, 32, 110, 111, 116, 32, 97, 103, 101, 32, 114, 97, 110, 107, 32, 104, 105, 115, 97, 103, 101, 32, 104, 105, 115, 114, 97, 110, 107, 32, 107, 105, 110, 32, 111, 119, 101, 115, 32, 108, 97, 100, 105, 101, 115, 32, 111, 119, 101, 100, 32, 109, 105, 110, 101, 32, 103, 111, 110, 101, 32]
def fX9_wordOf (M : QM) (x1 x2 : Int32) : Option (Int32 × QM) := fX9_wordOf_l M x1 x2 q_words 0 0
theorem kX9_wordOf (l : Launch) {y : Ly} (hJ : ly_J y) (hy : y.2.2.2.2 = 0) {M M1 : QM} {r : Int32} {x1 x2 : Int32} (hF : fX9_wordOf M x1 x2 = some (r, M1)) : Met l yX9_wordOf wqX9_wordOf rmX9_wordOf (q_P y [.ref (ly_o y 1), .int x1, .int x2] M) (q_E y (some (.int r)) M1) 0 0 (ly_A y) := sorry
