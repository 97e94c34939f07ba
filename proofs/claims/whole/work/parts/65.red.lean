/-! REDUCTION: letters changed keep a form positive; each step makes a square less -/
section Red
variable {T : Nat → Nat → Int} {nl : Int} {E : Nat → Int}
def chT (i j : Nat) (c : Int) (T : Nat → Nat → Int) : Nat → Nat → Int := fun p q => if p = i ∧ q = i then T i i + 2 * c * T i j + c * c * T j j else if p = i then T i q + c * T j q else if q = i then T i p + c * T j p else T p q
theorem ch01_Q (hs : symT T) (c y0 y1 y2 y3 : Int) : QT (chT 0 1 c T) (y0, y1, y2, y3) = QT T (y0, y1 + c * y0, y2, y3) := by
  show (T 0 0 + 2 * c * T 0 1 + c * c * T 1 1) * y0 * y0 + T 1 1 * y1 * y1 + T 2 2 * y2 * y2 + (2 * (T 0 1 + c * T 1 1) * y0 * y1 + 2 * (T 0 2 + c * T 1 2) * y0 * y2 + 2 * T 1 2 * y1 * y2) + (2 * (T 0 3 + c * T 1 3) * y0 + 2 * T 1 3 * y1 + 2 * T 2 3 * y2) * y3 + T 3 3 * y3 * y3 = T 0 0 * y0 * y0 + T 1 1 * (y1 + c * y0) * (y1 + c * y0) + T 2 2 * y2 * y2 + (2 * T 0 1 * y0 * (y1 + c * y0) + 2 * T 0 2 * y0 * y2 + 2 * T 1 2 * (y1 + c * y0) * y2) + (2 * T 0 3 * y0 + 2 * T 1 3 * (y1 + c * y0) + 2 * T 2 3 * y2) * y3 + T 3 3 * y3 * y3
  have s10 := hs 1 0 (by omega) (by omega); have s20 := hs 2 0 (by omega) (by omega); have s21 := hs 2 1 (by omega) (by omega); have s30 := hs 3 0 (by omega) (by omega); have s31 := hs 3 1 (by omega) (by omega); have s32 := hs 3 2 (by omega) (by omega)
  try simp only [s10, s20, s21, s30, s31, s32]
  clear s10 s20 s21 s30 s31 s32 hs; grind
theorem ch02_Q (hs : symT T) (c y0 y1 y2 y3 : Int) : QT (chT 0 2 c T) (y0, y1, y2, y3) = QT T (y0, y1, y2 + c * y0, y3) := by
  show (T 0 0 + 2 * c * T 0 2 + c * c * T 2 2) * y0 * y0 + T 1 1 * y1 * y1 + T 2 2 * y2 * y2 + (2 * (T 0 1 + c * T 2 1) * y0 * y1 + 2 * (T 0 2 + c * T 2 2) * y0 * y2 + 2 * T 1 2 * y1 * y2) + (2 * (T 0 3 + c * T 2 3) * y0 + 2 * T 1 3 * y1 + 2 * T 2 3 * y2) * y3 + T 3 3 * y3 * y3 = T 0 0 * y0 * y0 + T 1 1 * y1 * y1 + T 2 2 * (y2 + c * y0) * (y2 + c * y0) + (2 * T 0 1 * y0 * y1 + 2 * T 0 2 * y0 * (y2 + c * y0) + 2 * T 1 2 * y1 * (y2 + c * y0)) + (2 * T 0 3 * y0 + 2 * T 1 3 * y1 + 2 * T 2 3 * (y2 + c * y0)) * y3 + T 3 3 * y3 * y3
  have s10 := hs 1 0 (by omega) (by omega); have s20 := hs 2 0 (by omega) (by omega); have s21 := hs 2 1 (by omega) (by omega); have s30 := hs 3 0 (by omega) (by omega); have s31 := hs 3 1 (by omega) (by omega); have s32 := hs 3 2 (by omega) (by omega)
  try simp only [s10, s20, s21, s30, s31, s32]
  clear s10 s20 s21 s30 s31 s32 hs; grind
theorem ch03_Q (hs : symT T) (c y0 y1 y2 y3 : Int) : QT (chT 0 3 c T) (y0, y1, y2, y3) = QT T (y0, y1, y2, y3 + c * y0) := by
  show (T 0 0 + 2 * c * T 0 3 + c * c * T 3 3) * y0 * y0 + T 1 1 * y1 * y1 + T 2 2 * y2 * y2 + (2 * (T 0 1 + c * T 3 1) * y0 * y1 + 2 * (T 0 2 + c * T 3 2) * y0 * y2 + 2 * T 1 2 * y1 * y2) + (2 * (T 0 3 + c * T 3 3) * y0 + 2 * T 1 3 * y1 + 2 * T 2 3 * y2) * y3 + T 3 3 * y3 * y3 = T 0 0 * y0 * y0 + T 1 1 * y1 * y1 + T 2 2 * y2 * y2 + (2 * T 0 1 * y0 * y1 + 2 * T 0 2 * y0 * y2 + 2 * T 1 2 * y1 * y2) + (2 * T 0 3 * y0 + 2 * T 1 3 * y1 + 2 * T 2 3 * y2) * (y3 + c * y0) + T 3 3 * (y3 + c * y0) * (y3 + c * y0)
  have s10 := hs 1 0 (by omega) (by omega); have s20 := hs 2 0 (by omega) (by omega); have s21 := hs 2 1 (by omega) (by omega); have s30 := hs 3 0 (by omega) (by omega); have s31 := hs 3 1 (by omega) (by omega); have s32 := hs 3 2 (by omega) (by omega)
  try simp only [s10, s20, s21, s30, s31, s32]
  clear s10 s20 s21 s30 s31 s32 hs; grind
theorem ch10_Q (hs : symT T) (c y0 y1 y2 y3 : Int) : QT (chT 1 0 c T) (y0, y1, y2, y3) = QT T (y0 + c * y1, y1, y2, y3) := by
  show T 0 0 * y0 * y0 + (T 1 1 + 2 * c * T 1 0 + c * c * T 0 0) * y1 * y1 + T 2 2 * y2 * y2 + (2 * (T 1 0 + c * T 0 0) * y0 * y1 + 2 * T 0 2 * y0 * y2 + 2 * (T 1 2 + c * T 0 2) * y1 * y2) + (2 * T 0 3 * y0 + 2 * (T 1 3 + c * T 0 3) * y1 + 2 * T 2 3 * y2) * y3 + T 3 3 * y3 * y3 = T 0 0 * (y0 + c * y1) * (y0 + c * y1) + T 1 1 * y1 * y1 + T 2 2 * y2 * y2 + (2 * T 0 1 * (y0 + c * y1) * y1 + 2 * T 0 2 * (y0 + c * y1) * y2 + 2 * T 1 2 * y1 * y2) + (2 * T 0 3 * (y0 + c * y1) + 2 * T 1 3 * y1 + 2 * T 2 3 * y2) * y3 + T 3 3 * y3 * y3
  have s10 := hs 1 0 (by omega) (by omega); have s20 := hs 2 0 (by omega) (by omega); have s21 := hs 2 1 (by omega) (by omega); have s30 := hs 3 0 (by omega) (by omega); have s31 := hs 3 1 (by omega) (by omega); have s32 := hs 3 2 (by omega) (by omega)
  try simp only [s10, s20, s21, s30, s31, s32]
  clear s10 s20 s21 s30 s31 s32 hs; grind
theorem ch12_Q (hs : symT T) (c y0 y1 y2 y3 : Int) : QT (chT 1 2 c T) (y0, y1, y2, y3) = QT T (y0, y1, y2 + c * y1, y3) := by
  show T 0 0 * y0 * y0 + (T 1 1 + 2 * c * T 1 2 + c * c * T 2 2) * y1 * y1 + T 2 2 * y2 * y2 + (2 * (T 1 0 + c * T 2 0) * y0 * y1 + 2 * T 0 2 * y0 * y2 + 2 * (T 1 2 + c * T 2 2) * y1 * y2) + (2 * T 0 3 * y0 + 2 * (T 1 3 + c * T 2 3) * y1 + 2 * T 2 3 * y2) * y3 + T 3 3 * y3 * y3 = T 0 0 * y0 * y0 + T 1 1 * y1 * y1 + T 2 2 * (y2 + c * y1) * (y2 + c * y1) + (2 * T 0 1 * y0 * y1 + 2 * T 0 2 * y0 * (y2 + c * y1) + 2 * T 1 2 * y1 * (y2 + c * y1)) + (2 * T 0 3 * y0 + 2 * T 1 3 * y1 + 2 * T 2 3 * (y2 + c * y1)) * y3 + T 3 3 * y3 * y3
  have s10 := hs 1 0 (by omega) (by omega); have s20 := hs 2 0 (by omega) (by omega); have s21 := hs 2 1 (by omega) (by omega); have s30 := hs 3 0 (by omega) (by omega); have s31 := hs 3 1 (by omega) (by omega); have s32 := hs 3 2 (by omega) (by omega)
  try simp only [s10, s20, s21, s30, s31, s32]
  clear s10 s20 s21 s30 s31 s32 hs; grind
theorem ch13_Q (hs : symT T) (c y0 y1 y2 y3 : Int) : QT (chT 1 3 c T) (y0, y1, y2, y3) = QT T (y0, y1, y2, y3 + c * y1) := by
  show T 0 0 * y0 * y0 + (T 1 1 + 2 * c * T 1 3 + c * c * T 3 3) * y1 * y1 + T 2 2 * y2 * y2 + (2 * (T 1 0 + c * T 3 0) * y0 * y1 + 2 * T 0 2 * y0 * y2 + 2 * (T 1 2 + c * T 3 2) * y1 * y2) + (2 * T 0 3 * y0 + 2 * (T 1 3 + c * T 3 3) * y1 + 2 * T 2 3 * y2) * y3 + T 3 3 * y3 * y3 = T 0 0 * y0 * y0 + T 1 1 * y1 * y1 + T 2 2 * y2 * y2 + (2 * T 0 1 * y0 * y1 + 2 * T 0 2 * y0 * y2 + 2 * T 1 2 * y1 * y2) + (2 * T 0 3 * y0 + 2 * T 1 3 * y1 + 2 * T 2 3 * y2) * (y3 + c * y1) + T 3 3 * (y3 + c * y1) * (y3 + c * y1)
  have s10 := hs 1 0 (by omega) (by omega); have s20 := hs 2 0 (by omega) (by omega); have s21 := hs 2 1 (by omega) (by omega); have s30 := hs 3 0 (by omega) (by omega); have s31 := hs 3 1 (by omega) (by omega); have s32 := hs 3 2 (by omega) (by omega)
  try simp only [s10, s20, s21, s30, s31, s32]
  clear s10 s20 s21 s30 s31 s32 hs; grind
theorem ch20_Q (hs : symT T) (c y0 y1 y2 y3 : Int) : QT (chT 2 0 c T) (y0, y1, y2, y3) = QT T (y0 + c * y2, y1, y2, y3) := by
  show T 0 0 * y0 * y0 + T 1 1 * y1 * y1 + (T 2 2 + 2 * c * T 2 0 + c * c * T 0 0) * y2 * y2 + (2 * T 0 1 * y0 * y1 + 2 * (T 2 0 + c * T 0 0) * y0 * y2 + 2 * (T 2 1 + c * T 0 1) * y1 * y2) + (2 * T 0 3 * y0 + 2 * T 1 3 * y1 + 2 * (T 2 3 + c * T 0 3) * y2) * y3 + T 3 3 * y3 * y3 = T 0 0 * (y0 + c * y2) * (y0 + c * y2) + T 1 1 * y1 * y1 + T 2 2 * y2 * y2 + (2 * T 0 1 * (y0 + c * y2) * y1 + 2 * T 0 2 * (y0 + c * y2) * y2 + 2 * T 1 2 * y1 * y2) + (2 * T 0 3 * (y0 + c * y2) + 2 * T 1 3 * y1 + 2 * T 2 3 * y2) * y3 + T 3 3 * y3 * y3
  have s10 := hs 1 0 (by omega) (by omega); have s20 := hs 2 0 (by omega) (by omega); have s21 := hs 2 1 (by omega) (by omega); have s30 := hs 3 0 (by omega) (by omega); have s31 := hs 3 1 (by omega) (by omega); have s32 := hs 3 2 (by omega) (by omega)
  try simp only [s10, s20, s21, s30, s31, s32]
  clear s10 s20 s21 s30 s31 s32 hs; grind
theorem ch21_Q (hs : symT T) (c y0 y1 y2 y3 : Int) : QT (chT 2 1 c T) (y0, y1, y2, y3) = QT T (y0, y1 + c * y2, y2, y3) := by
  show T 0 0 * y0 * y0 + T 1 1 * y1 * y1 + (T 2 2 + 2 * c * T 2 1 + c * c * T 1 1) * y2 * y2 + (2 * T 0 1 * y0 * y1 + 2 * (T 2 0 + c * T 1 0) * y0 * y2 + 2 * (T 2 1 + c * T 1 1) * y1 * y2) + (2 * T 0 3 * y0 + 2 * T 1 3 * y1 + 2 * (T 2 3 + c * T 1 3) * y2) * y3 + T 3 3 * y3 * y3 = T 0 0 * y0 * y0 + T 1 1 * (y1 + c * y2) * (y1 + c * y2) + T 2 2 * y2 * y2 + (2 * T 0 1 * y0 * (y1 + c * y2) + 2 * T 0 2 * y0 * y2 + 2 * T 1 2 * (y1 + c * y2) * y2) + (2 * T 0 3 * y0 + 2 * T 1 3 * (y1 + c * y2) + 2 * T 2 3 * y2) * y3 + T 3 3 * y3 * y3
  have s10 := hs 1 0 (by omega) (by omega); have s20 := hs 2 0 (by omega) (by omega); have s21 := hs 2 1 (by omega) (by omega); have s30 := hs 3 0 (by omega) (by omega); have s31 := hs 3 1 (by omega) (by omega); have s32 := hs 3 2 (by omega) (by omega)
  try simp only [s10, s20, s21, s30, s31, s32]
  clear s10 s20 s21 s30 s31 s32 hs; grind
theorem ch23_Q (hs : symT T) (c y0 y1 y2 y3 : Int) : QT (chT 2 3 c T) (y0, y1, y2, y3) = QT T (y0, y1, y2, y3 + c * y2) := by
  show T 0 0 * y0 * y0 + T 1 1 * y1 * y1 + (T 2 2 + 2 * c * T 2 3 + c * c * T 3 3) * y2 * y2 + (2 * T 0 1 * y0 * y1 + 2 * (T 2 0 + c * T 3 0) * y0 * y2 + 2 * (T 2 1 + c * T 3 1) * y1 * y2) + (2 * T 0 3 * y0 + 2 * T 1 3 * y1 + 2 * (T 2 3 + c * T 3 3) * y2) * y3 + T 3 3 * y3 * y3 = T 0 0 * y0 * y0 + T 1 1 * y1 * y1 + T 2 2 * y2 * y2 + (2 * T 0 1 * y0 * y1 + 2 * T 0 2 * y0 * y2 + 2 * T 1 2 * y1 * y2) + (2 * T 0 3 * y0 + 2 * T 1 3 * y1 + 2 * T 2 3 * y2) * (y3 + c * y2) + T 3 3 * (y3 + c * y2) * (y3 + c * y2)
  have s10 := hs 1 0 (by omega) (by omega); have s20 := hs 2 0 (by omega) (by omega); have s21 := hs 2 1 (by omega) (by omega); have s30 := hs 3 0 (by omega) (by omega); have s31 := hs 3 1 (by omega) (by omega); have s32 := hs 3 2 (by omega) (by omega)
  try simp only [s10, s20, s21, s30, s31, s32]
  clear s10 s20 s21 s30 s31 s32 hs; grind
theorem ch30_Q (hs : symT T) (c y0 y1 y2 y3 : Int) : QT (chT 3 0 c T) (y0, y1, y2, y3) = QT T (y0 + c * y3, y1, y2, y3) := by
  show T 0 0 * y0 * y0 + T 1 1 * y1 * y1 + T 2 2 * y2 * y2 + (2 * T 0 1 * y0 * y1 + 2 * T 0 2 * y0 * y2 + 2 * T 1 2 * y1 * y2) + (2 * (T 3 0 + c * T 0 0) * y0 + 2 * (T 3 1 + c * T 0 1) * y1 + 2 * (T 3 2 + c * T 0 2) * y2) * y3 + (T 3 3 + 2 * c * T 3 0 + c * c * T 0 0) * y3 * y3 = T 0 0 * (y0 + c * y3) * (y0 + c * y3) + T 1 1 * y1 * y1 + T 2 2 * y2 * y2 + (2 * T 0 1 * (y0 + c * y3) * y1 + 2 * T 0 2 * (y0 + c * y3) * y2 + 2 * T 1 2 * y1 * y2) + (2 * T 0 3 * (y0 + c * y3) + 2 * T 1 3 * y1 + 2 * T 2 3 * y2) * y3 + T 3 3 * y3 * y3
  have s10 := hs 1 0 (by omega) (by omega); have s20 := hs 2 0 (by omega) (by omega); have s21 := hs 2 1 (by omega) (by omega); have s30 := hs 3 0 (by omega) (by omega); have s31 := hs 3 1 (by omega) (by omega); have s32 := hs 3 2 (by omega) (by omega)
  try simp only [s10, s20, s21, s30, s31, s32]
  clear s10 s20 s21 s30 s31 s32 hs; grind
theorem ch31_Q (hs : symT T) (c y0 y1 y2 y3 : Int) : QT (chT 3 1 c T) (y0, y1, y2, y3) = QT T (y0, y1 + c * y3, y2, y3) := by
  show T 0 0 * y0 * y0 + T 1 1 * y1 * y1 + T 2 2 * y2 * y2 + (2 * T 0 1 * y0 * y1 + 2 * T 0 2 * y0 * y2 + 2 * T 1 2 * y1 * y2) + (2 * (T 3 0 + c * T 1 0) * y0 + 2 * (T 3 1 + c * T 1 1) * y1 + 2 * (T 3 2 + c * T 1 2) * y2) * y3 + (T 3 3 + 2 * c * T 3 1 + c * c * T 1 1) * y3 * y3 = T 0 0 * y0 * y0 + T 1 1 * (y1 + c * y3) * (y1 + c * y3) + T 2 2 * y2 * y2 + (2 * T 0 1 * y0 * (y1 + c * y3) + 2 * T 0 2 * y0 * y2 + 2 * T 1 2 * (y1 + c * y3) * y2) + (2 * T 0 3 * y0 + 2 * T 1 3 * (y1 + c * y3) + 2 * T 2 3 * y2) * y3 + T 3 3 * y3 * y3
  have s10 := hs 1 0 (by omega) (by omega); have s20 := hs 2 0 (by omega) (by omega); have s21 := hs 2 1 (by omega) (by omega); have s30 := hs 3 0 (by omega) (by omega); have s31 := hs 3 1 (by omega) (by omega); have s32 := hs 3 2 (by omega) (by omega)
  try simp only [s10, s20, s21, s30, s31, s32]
  clear s10 s20 s21 s30 s31 s32 hs; grind
theorem ch32_Q (hs : symT T) (c y0 y1 y2 y3 : Int) : QT (chT 3 2 c T) (y0, y1, y2, y3) = QT T (y0, y1, y2 + c * y3, y3) := by
  show T 0 0 * y0 * y0 + T 1 1 * y1 * y1 + T 2 2 * y2 * y2 + (2 * T 0 1 * y0 * y1 + 2 * T 0 2 * y0 * y2 + 2 * T 1 2 * y1 * y2) + (2 * (T 3 0 + c * T 2 0) * y0 + 2 * (T 3 1 + c * T 2 1) * y1 + 2 * (T 3 2 + c * T 2 2) * y2) * y3 + (T 3 3 + 2 * c * T 3 2 + c * c * T 2 2) * y3 * y3 = T 0 0 * y0 * y0 + T 1 1 * y1 * y1 + T 2 2 * (y2 + c * y3) * (y2 + c * y3) + (2 * T 0 1 * y0 * y1 + 2 * T 0 2 * y0 * (y2 + c * y3) + 2 * T 1 2 * y1 * (y2 + c * y3)) + (2 * T 0 3 * y0 + 2 * T 1 3 * y1 + 2 * T 2 3 * (y2 + c * y3)) * y3 + T 3 3 * y3 * y3
  have s10 := hs 1 0 (by omega) (by omega); have s20 := hs 2 0 (by omega) (by omega); have s21 := hs 2 1 (by omega) (by omega); have s30 := hs 3 0 (by omega) (by omega); have s31 := hs 3 1 (by omega) (by omega); have s32 := hs 3 2 (by omega) (by omega)
  try simp only [s10, s20, s21, s30, s31, s32]
  clear s10 s20 s21 s30 s31 s32 hs; grind
theorem ch_PDQ (hs : symT T) (h : PDQ T) {i j : Nat} (c : Int) (hi : i < 4) (hj : j < 4) (hij : i ≠ j) : PDQ (chT i j c T) := by
  intro y0 y1 y2 y3 hy
  rcases (show i = 0 ∧ j = 1 ∨ i = 0 ∧ j = 2 ∨ i = 0 ∧ j = 3 ∨ i = 1 ∧ j = 0 ∨ i = 1 ∧ j = 2 ∨ i = 1 ∧ j = 3 ∨ i = 2 ∧ j = 0 ∨ i = 2 ∧ j = 1 ∨ i = 2 ∧ j = 3 ∨ i = 3 ∧ j = 0 ∨ i = 3 ∧ j = 1 ∨ i = 3 ∧ j = 2 by omega) with ⟨rfl, rfl⟩ | ⟨rfl, rfl⟩ | ⟨rfl, rfl⟩ | ⟨rfl, rfl⟩ | ⟨rfl, rfl⟩ | ⟨rfl, rfl⟩ | ⟨rfl, rfl⟩ | ⟨rfl, rfl⟩ | ⟨rfl, rfl⟩ | ⟨rfl, rfl⟩ | ⟨rfl, rfl⟩ | ⟨rfl, rfl⟩
  · rw [ch01_Q hs]; refine h _ _ _ _ ?_
    by_cases e : y0 = 0
    · rw [e, Int.mul_zero, Int.add_zero]; omega
    · omega
  · rw [ch02_Q hs]; refine h _ _ _ _ ?_
    by_cases e : y0 = 0
    · rw [e, Int.mul_zero, Int.add_zero]; omega
    · omega
  · rw [ch03_Q hs]; refine h _ _ _ _ ?_
    by_cases e : y0 = 0
    · rw [e, Int.mul_zero, Int.add_zero]; omega
    · omega
  · rw [ch10_Q hs]; refine h _ _ _ _ ?_
    by_cases e : y1 = 0
    · rw [e, Int.mul_zero, Int.add_zero]; omega
    · omega
  · rw [ch12_Q hs]; refine h _ _ _ _ ?_
    by_cases e : y1 = 0
    · rw [e, Int.mul_zero, Int.add_zero]; omega
    · omega
  · rw [ch13_Q hs]; refine h _ _ _ _ ?_
    by_cases e : y1 = 0
    · rw [e, Int.mul_zero, Int.add_zero]; omega
    · omega
  · rw [ch20_Q hs]; refine h _ _ _ _ ?_
    by_cases e : y2 = 0
    · rw [e, Int.mul_zero, Int.add_zero]; omega
    · omega
  · rw [ch21_Q hs]; refine h _ _ _ _ ?_
    by_cases e : y2 = 0
    · rw [e, Int.mul_zero, Int.add_zero]; omega
    · omega
  · rw [ch23_Q hs]; refine h _ _ _ _ ?_
    by_cases e : y2 = 0
    · rw [e, Int.mul_zero, Int.add_zero]; omega
    · omega
  · rw [ch30_Q hs]; refine h _ _ _ _ ?_
    by_cases e : y3 = 0
    · rw [e, Int.mul_zero, Int.add_zero]; omega
    · omega
  · rw [ch31_Q hs]; refine h _ _ _ _ ?_
    by_cases e : y3 = 0
    · rw [e, Int.mul_zero, Int.add_zero]; omega
    · omega
  · rw [ch32_Q hs]; refine h _ _ _ _ ?_
    by_cases e : y3 = 0
    · rw [e, Int.mul_zero, Int.add_zero]; omega
    · omega
theorem ch_eq {i j : Nat} {c : Int} (h4 : nl ≤ 4) (hi : (i : Int) < nl) (hj : (j : Int) < nl) (hij : i ≠ j) (hs : symS E) (hz : zeroS nl E) : eqT (padT nl (chgE E nl.toNat i j c)) (chT i j c (padT nl E)) := by
  intro p q hp hq
  have e1 : (4 * p + q) / 4 = p := by omega
  have e2 : (4 * p + q) % 4 = q := by omega
  have ii := padT_in (nl := nl) (E := E) (i := i) (j := i) hi
  have jj := padT_in (nl := nl) (E := E) (i := j) (j := j) hj
  have hij' := padT_in (nl := nl) (E := E) (i := i) (j := j) hi
  unfold chT
  by_cases h1 : p = i ∧ q = i
  · obtain ⟨rfl, rfl⟩ := h1
    rw [if_pos ⟨rfl, rfl⟩, padT_in hi, ii, jj, hij']
    unfold chgE setE; rw [if_pos rfl]
  · rw [if_neg h1]
    have hne : ¬ 4 * p + q = 4 * i + i := by omega
    by_cases h2 : p = i
    · subst h2
      have hq2 : q ≠ p := by omega
      rw [if_pos rfl, padT_ne (by omega), padT_in (i := p) hi, padT_in (i := j) hj]
      unfold chgE setE chgK
      rw [if_neg hne, if_neg hne, e1, e2]
      by_cases h3 : q < nl.toNat
      · rw [if_pos (by omega)]
      · rw [if_neg (by omega), if_neg (by omega), hz p q hp hq (by omega), hz j q (by omega) hq (by omega)]; omega
    · rw [if_neg h2]
      by_cases h3 : q = i
      · subst h3
        rw [if_pos rfl, padT_ne (by omega), padT_in (i := q) hi, padT_in (i := j) hj]
        unfold chgE setE chgK
        rw [if_neg hne, if_neg hne, e1, e2, if_neg (by omega)]
        by_cases h5 : p < nl.toNat
        · rw [if_pos (by omega)]
        · rw [if_neg (by omega), hz p q hp hq (by omega), hz q p hq hp (by omega), hz j p (by omega) hp (by omega)]; omega
      · rw [if_neg h3]
        by_cases e : p = q ∧ nl ≤ (p : Int)
        · unfold padT; rw [if_pos e, if_pos e]
        · unfold padT; rw [if_neg e, if_neg e]
          unfold chgE setE chgK
          rw [if_neg hne, if_neg hne, e1, e2, if_neg (by omega), if_neg (by omega)]
theorem chg_sym {i j : Nat} {c : Int} (hi : i < 4) (hj : j < 4) (hs : symS E) : symS (chgE E nl.toNat i j c) := by
  intro p q hp hq
  unfold chgE setE chgK
  rw [show (4 * p + q) / 4 = p by omega, show (4 * p + q) % 4 = q by omega, show (4 * q + p) / 4 = q by omega, show (4 * q + p) % 4 = p by omega]
  by_cases h1 : 4 * p + q = 4 * i + i
  · rw [if_pos h1, if_pos (show 4 * q + p = 4 * i + i by omega)]
  · have h2 : ¬ 4 * q + p = 4 * i + i := by omega
    rw [if_neg h1, if_neg h1, if_neg h2, if_neg h2]
    by_cases h3 : p = i ∧ q ≠ i ∧ q < nl.toNat
    · rw [if_pos h3, if_neg (by omega), if_pos (by omega)]
    · rw [if_neg h3]
      by_cases h4 : q = i ∧ p ≠ i ∧ p < nl.toNat
      · rw [if_pos h4, if_pos h4]
      · rw [if_neg h4, if_neg h4, if_neg h3]; exact hs p q hp hq
theorem chg_zero {i j : Nat} {c : Int} (h4 : nl ≤ 4) (hi : (i : Int) < nl) (hz : zeroS nl E) : zeroS nl (chgE E nl.toNat i j c) := by
  intro p q hp hq h
  unfold chgE setE chgK
  rw [show (4 * p + q) / 4 = p by omega, show (4 * p + q) % 4 = q by omega, if_neg (by omega), if_neg (by omega), if_neg (by omega), if_neg (by omega)]
  exact hz p q hp hq h
/-- where the next step of a reduction is, the last k places; -1: there is none -/
def stepB (nl : Int) (E : Nat → Int) (q : Nat) : Prop := ((q / 4 : Nat) : Int) < nl ∧ ((q % 4 : Nat) : Int) < nl ∧ q / 4 ≠ q % 4 ∧ E (5 * (q % 4)) < 2 * ((E q).natAbs : Int)
noncomputable def nstD (nl : Int) (E : Nat → Int) : Nat → Int
  | 0 => -1
  | k + 1 => cif (stepB nl E (15 - k)) ((15 - k : Nat) : Int) (nstD nl E k)
noncomputable def nst (nl : Int) (E : Nat → Int) : Int := nstD nl E 16
theorem nstD_spec (nl : Int) (E : Nat → Int) : ∀ k : Nat, k ≤ 16 → nstD nl E k = -1 ∨ (16 - (k : Int) ≤ nstD nl E k ∧ nstD nl E k < 16 ∧ stepB nl E (nstD nl E k).toNat)
  | 0, _ => Or.inl rfl
  | k + 1, h => by
    have ih := nstD_spec nl E k (by omega)
    unfold nstD
    by_cases hc : stepB nl E (15 - k)
    · rw [cif_pos hc]; right; refine ⟨by omega, by omega, ?_⟩; rw [Int.toNat_natCast]; exact hc
    · rw [cif_neg hc]; rcases ih with ih | ih
      · exact Or.inl ih
      · exact Or.inr ⟨by omega, ih.2⟩
def redC (E : Nat → Int) (q : Nat) : Int := if E q < 0 then (2 * ((E q).natAbs : Int) + E (5 * (q % 4)) - 1).tdiv (2 * E (5 * (q % 4))) else -((2 * ((E q).natAbs : Int) + E (5 * (q % 4)) - 1).tdiv (2 * E (5 * (q % 4))))
def red1 (nl : Int) (E : Nat → Int) (q : Nat) : Nat → Int := chgE E nl.toNat (q / 4) (q % 4) (redC E q)
noncomputable def redS (nl : Int) : Nat → (Nat → Int) → Int × (Nat → Int)
  | 0, E => (0, E)
  | f + 1, E => cif (nst nl E < 0) (0, E) ((redS nl f (red1 nl E (nst nl E).toNat)).1 + 1, (redS nl f (red1 nl E (nst nl E).toNat)).2)
def gdF (nl : Int) (E : Nat → Int) : Prop := entS E ∧ symS E ∧ zeroS nl E ∧ PDQ (padT nl E)
def dsum (E : Nat → Int) : Int := E 0 + E 5 + E 10 + E 15
theorem gdF_of (h1 : 1 ≤ nl) (h : okF nl E) : gdF nl E := ⟨h.2.1.1, h.2.2.1, h.2.2.2, okF_PDQ h1 h⟩
theorem redC_bd {a b q : Int} (hb : 1 ≤ b) (ha : b < 2 * a) (hq : q = (2 * a + b - 1).tdiv (2 * b)) : 1 ≤ q ∧ q ≤ a ∧ 0 < 2 * a - q * b := by
  rw [Int.tdiv_eq_ediv_of_nonneg (by omega)] at hq
  have e := Int.mul_ediv_add_emod (2 * a + b - 1) (2 * b)
  have r0 := Int.emod_nonneg (2 * a + b - 1) (show 2 * b ≠ 0 by omega)
  have r1 := Int.emod_lt_of_pos (2 * a + b - 1) (show 0 < 2 * b by omega)
  rw [← hq] at e
  have e2 : 2 * b * q = 2 * (q * b) := by grind
  rw [e2] at e
  have q1 : 1 ≤ q := by
    by_cases h : 1 ≤ q
    · exact h
    · have : q * b ≤ 0 := Int.mul_nonpos_of_nonpos_of_nonneg (by omega) (by omega)
      omega
  refine ⟨q1, ?_, by omega⟩
  have : q * 1 ≤ q * b := Int.mul_le_mul_of_nonneg_left hb (by omega)
  have h3 : 2 * (q * b) ≤ 2 * a + b - 1 := by omega
  by_cases h : q ≤ a
  · exact h
  · have : (a + 1) * b ≤ q * b := Int.mul_le_mul_of_nonneg_right (by omega) (by omega)
    have h5 : (a + 1) * b = a * b + b := by rw [Int.add_mul, Int.one_mul]
    have h6 : a * 1 ≤ a * b := Int.mul_le_mul_of_nonneg_left hb (by omega)
    omega
theorem red_step (h1 : 1 ≤ nl) (h4 : nl ≤ 4) (hg : gdF nl E) {q : Nat} (hq : q < 16) (hb : stepB nl E q) : gdF nl (red1 nl E q) ∧ dsum (red1 nl E q) < dsum E ∧ -99 ≤ redC E q ∧ redC E q ≤ 99 ∧ 1 ≤ E (5 * (q % 4)) := by
  obtain ⟨hE, hs, hz, hp⟩ := hg
  obtain ⟨b1, b2, b3, b4⟩ := hb
  have hsy := symT_pad (nl := nl) hs
  have hjj := (PDQ_two hp hsy (i := q % 4) (j := q / 4) (by omega) (by omega) (Ne.symm b3)).1
  rw [padT_in b2, show 4 * (q % 4) + q % 4 = 5 * (q % 4) by omega] at hjj
  have hEq := hE q hq
  have hbd := redC_bd (a := ((E q).natAbs : Int)) (b := E (5 * (q % 4))) hjj b4 rfl
  have hce : -99 ≤ redC E q ∧ redC E q ≤ 99 := by unfold redC; split <;> omega
  have heq := ch_eq (c := redC E q) h4 b1 b2 b3 hs hz
  have hp' : PDQ (padT nl (red1 nl E q)) := PDQ_cg (fun a b c d => (heq a b c d).symm) (ch_PDQ hsy hp (redC E q) (by omega) (by omega) b3)
  have hs' : symS (red1 nl E q) := chg_sym (by omega) (by omega) hs
  have hz' : zeroS nl (red1 nl E q) := chg_zero h4 b1 hz
  have hii : red1 nl E q (5 * (q / 4)) = E (5 * (q / 4)) - (2 * ((E q).natAbs : Int) + E (5 * (q % 4)) - 1).tdiv (2 * E (5 * (q % 4))) * (2 * ((E q).natAbs : Int) - (2 * ((E q).natAbs : Int) + E (5 * (q % 4)) - 1).tdiv (2 * E (5 * (q % 4))) * E (5 * (q % 4))) := by
    unfold red1 chgE setE
    rw [if_pos (by omega), show 4 * (q / 4) + q / 4 = 5 * (q / 4) by omega, show 4 * (q % 4) + q % 4 = 5 * (q % 4) by omega, show 4 * (q / 4) + q % 4 = q by omega]
    unfold redC
    generalize (2 * ((E q).natAbs : Int) + E (5 * (q % 4)) - 1).tdiv (2 * E (5 * (q % 4))) = u
    split
    · rename_i hn
      rw [show ((E q).natAbs : Int) = -E q by omega]; grind
    · rename_i hn
      rw [show ((E q).natAbs : Int) = E q by omega]; grind
  have hlt : red1 nl E q (5 * (q / 4)) < E (5 * (q / 4)) := by
    rw [hii]
    have := Int.mul_pos (show (0 : Int) < (2 * ((E q).natAbs : Int) + E (5 * (q % 4)) - 1).tdiv (2 * E (5 * (q % 4))) by omega) hbd.2.2
    omega
  have hoth : ∀ k, k < 4 → k ≠ q / 4 → red1 nl E q (5 * k) = E (5 * k) := by
    intro k hk hkq
    unfold red1 chgE setE chgK
    rw [if_neg (by omega), if_neg (by omega), if_neg (by omega), if_neg (by omega)]
  have hdd : ∀ i, i < 4 → padT nl (red1 nl E q) i i ≤ 99 := by
    intro i hi
    unfold padT
    split
    · omega
    · rw [show 4 * i + i = 5 * i by omega]
      have := hE (5 * i) (by omega)
      by_cases e : i = q / 4
      · rw [e] at this ⊢; omega
      · rw [hoth i hi e]; omega
  refine ⟨⟨fun k hk => ?_, hs', hz', hp'⟩, ?_, hce.1, hce.2, hjj⟩
  · have := PDQ_ent hp' (symT_pad hs') hdd (i := k / 4) (j := k % 4) (by omega) (by omega)
    unfold padT at this
    split at this
    · rename_i hx
      have := hz' (k / 4) (k % 4) (by omega) (by omega) (by omega)
      rw [show 4 * (k / 4) + k % 4 = k by omega] at this; omega
    · rw [show 4 * (k / 4) + k % 4 = k by omega] at this; exact this
  · unfold dsum
    have o0 := hoth 0 (by omega)
    have o1 := hoth 1 (by omega)
    have o2 := hoth 2 (by omega)
    have o3 := hoth 3 (by omega)
    rcases (show q / 4 = 0 ∨ q / 4 = 1 ∨ q / 4 = 2 ∨ q / 4 = 3 by omega) with e | e | e | e <;> rw [e] at hlt <;> simp only [Nat.mul_zero, Nat.mul_one, Nat.reduceMul] at * <;> omega
theorem gdF_diag (h1 : 1 ≤ nl) (h4 : nl ≤ 4) (hg : gdF nl E) : 1 ≤ dsum E ∧ dsum E ≤ 396 := by
  obtain ⟨hE, hs, hz, hp⟩ := hg
  have k : ∀ i, i < 4 → 0 ≤ E (5 * i) := by
    intro i hi
    by_cases h : (i : Int) < nl
    · have := (PDQ_two hp (symT_pad hs) (i := i) (j := if i = 0 then 1 else 0) hi (by split <;> omega) (by split <;> omega)).1
      rw [padT_in h, show 4 * i + i = 5 * i by omega] at this; omega
    · have := hz i i hi hi (by omega)
      rw [show 4 * i + i = 5 * i by omega] at this; omega
  have k0 := (PDQ_two hp (symT_pad hs) (i := 0) (j := 1) (by omega) (by omega) (by omega)).1
  rw [padT_in (by omega)] at k0
  have k1 := k 1 (by omega)
  have k2 := k 2 (by omega)
  have k3 := k 3 (by omega)
  have e0 := hE 0 (by omega)
  have e5 := hE 5 (by omega)
  have e10 := hE 10 (by omega)
  have e15 := hE 15 (by omega)
  simp only [Nat.mul_zero, Nat.mul_one, Nat.reduceMul, Nat.add_zero] at *
  unfold dsum; omega
theorem redS_bd (h1 : 1 ≤ nl) (h4 : nl ≤ 4) : ∀ (f : Nat) (E : Nat → Int), gdF nl E → 0 ≤ (redS nl f E).1 ∧ (redS nl f E).1 ≤ f ∧ gdF nl (redS nl f E).2
  | 0, E, h => ⟨by simp [redS], by simp [redS], h⟩
  | f + 1, E, h => by
    unfold redS
    by_cases hc : nst nl E < 0
    · rw [cif_pos hc]; exact ⟨by simp, by simp; omega, h⟩
    · rw [cif_neg hc]
      have sp := nstD_spec nl E 16 (by omega)
      have sp2 : 0 ≤ nst nl E ∧ nst nl E < 16 ∧ stepB nl E (nst nl E).toNat := by
        unfold nst at *; rcases sp with sp | sp
        · omega
        · exact ⟨by omega, sp.2⟩
      have st := red_step h1 h4 h (q := (nst nl E).toNat) (by omega) sp2.2.2
      have ih := redS_bd h1 h4 f _ st.1
      exact ⟨by dsimp only; omega, by dsimp only; omega, ih.2.2⟩
noncomputable def aReduce (J : Nat → Nat → Int) (s : Int) : Int × (Nat → Nat → Int) := cif (0 ≤ s ∧ s < 6 ∧ 0 < J 44 s.toNat) (aComes J s (J 44 s.toNat) (redS (J 44 s.toNat) 400 (eE J s)).2 (redS (J 44 s.toNat) 400 (eE J s)).1) (-1, J)
end Red
