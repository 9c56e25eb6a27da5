/-! the reference's kindOf -/
def kdL : List (Int64 × Int) := [(7630702, 4), (6581857, 5), (29295, 6), (7499640, 7), (15933, 8), (61, 9), (8386668330298337636, 10), (6648937, 11), (500085716578, 12), (444083369570, 13), (431348610658, 14), (1919907426, 15), (491496437346, 16), (431180838498, 17), (422877296226, 18), (465826575970, 19), (130195029063266, 20), (120282479425122, 21), (465608865378, 22), (125792938653282, 23), (125792937932386, 24), (500035843682, 25), (435611334242, 26), (500035712610, 27), (435611203170, 28), (127961628831587, 29), (127970252186995, 33), (435711603827, 34), (7628140, 35)]
def kdF (a b : Int64) (k : Int) (p : Int64 × Int) : Int := if a = p.1 ∧ b = 0 then p.2 else k
theorem kd_0 (a b : Int64) (h : mx_H) : mx_D (1, mm_X11_kindOf, 0, [.long a, mx_junk, .long b, mx_junk, mx_junk], []) h = mx_D (1, mm_X11_kindOf, 23, [.long a, mx_junk, .long b, mx_junk, .int (iI (-1))], [.int (iI (kdF a b (-1) (7630702, 4)))]) h := by
  rw [e_X11_kindOf_0]
  simp only [lg0]
  unfold kdF
  by_cases q1 : a = 7630702
  · by_cases q2 : b = 0
    · rw [if_pos q1, if_pos q2, if_pos ⟨q1, q2⟩]; rfl
    · rw [if_pos q1, if_neg q2, if_neg (fun z => q2 z.2), e_X11_kindOf_21] <;> rfl
  · rw [if_neg q1, if_neg (fun z => q1 z.1), e_X11_kindOf_21] <;> rfl
theorem kd_1 (a b : Int64) (v4 : Int32) (k : Int) (h : mx_H) : mx_D (1, mm_X11_kindOf, 23, [.long a, mx_junk, .long b, mx_junk, .int v4], [.int (iI (k))]) h = mx_D (1, mm_X11_kindOf, 45, [.long a, mx_junk, .long b, mx_junk, .int (iI (k))], [.int (iI (kdF a b k (6581857, 5)))]) h := by
  rw [e_X11_kindOf_23]
  simp only [lg0]
  unfold kdF
  by_cases q1 : a = 6581857
  · by_cases q2 : b = 0
    · rw [if_pos q1, if_pos q2, if_pos ⟨q1, q2⟩]; rfl
    · rw [if_pos q1, if_neg q2, if_neg (fun z => q2 z.2), e_X11_kindOf_43] <;> rfl
  · rw [if_neg q1, if_neg (fun z => q1 z.1), e_X11_kindOf_43] <;> rfl
theorem kd_2 (a b : Int64) (v4 : Int32) (k : Int) (h : mx_H) : mx_D (1, mm_X11_kindOf, 45, [.long a, mx_junk, .long b, mx_junk, .int v4], [.int (iI (k))]) h = mx_D (1, mm_X11_kindOf, 68, [.long a, mx_junk, .long b, mx_junk, .int (iI (k))], [.int (iI (kdF a b k (29295, 6)))]) h := by
  rw [e_X11_kindOf_45]
  simp only [lg0]
  unfold kdF
  by_cases q1 : a = 29295
  · by_cases q2 : b = 0
    · rw [if_pos q1, if_pos q2, if_pos ⟨q1, q2⟩]; rfl
    · rw [if_pos q1, if_neg q2, if_neg (fun z => q2 z.2), e_X11_kindOf_66] <;> rfl
  · rw [if_neg q1, if_neg (fun z => q1 z.1), e_X11_kindOf_66] <;> rfl
theorem kd_3 (a b : Int64) (v4 : Int32) (k : Int) (h : mx_H) : mx_D (1, mm_X11_kindOf, 68, [.long a, mx_junk, .long b, mx_junk, .int v4], [.int (iI (k))]) h = mx_D (1, mm_X11_kindOf, 91, [.long a, mx_junk, .long b, mx_junk, .int (iI (k))], [.int (iI (kdF a b k (7499640, 7)))]) h := by
  rw [e_X11_kindOf_68]
  simp only [lg0]
  unfold kdF
  by_cases q1 : a = 7499640
  · by_cases q2 : b = 0
    · rw [if_pos q1, if_pos q2, if_pos ⟨q1, q2⟩]; rfl
    · rw [if_pos q1, if_neg q2, if_neg (fun z => q2 z.2), e_X11_kindOf_89] <;> rfl
  · rw [if_neg q1, if_neg (fun z => q1 z.1), e_X11_kindOf_89] <;> rfl
theorem kd_4 (a b : Int64) (v4 : Int32) (k : Int) (h : mx_H) : mx_D (1, mm_X11_kindOf, 91, [.long a, mx_junk, .long b, mx_junk, .int v4], [.int (iI (k))]) h = mx_D (1, mm_X11_kindOf, 114, [.long a, mx_junk, .long b, mx_junk, .int (iI (k))], [.int (iI (kdF a b k (15933, 8)))]) h := by
  rw [e_X11_kindOf_91]
  simp only [lg0]
  unfold kdF
  by_cases q1 : a = 15933
  · by_cases q2 : b = 0
    · rw [if_pos q1, if_pos q2, if_pos ⟨q1, q2⟩]; rfl
    · rw [if_pos q1, if_neg q2, if_neg (fun z => q2 z.2), e_X11_kindOf_112] <;> rfl
  · rw [if_neg q1, if_neg (fun z => q1 z.1), e_X11_kindOf_112] <;> rfl
theorem kd_5 (a b : Int64) (v4 : Int32) (k : Int) (h : mx_H) : mx_D (1, mm_X11_kindOf, 114, [.long a, mx_junk, .long b, mx_junk, .int v4], [.int (iI (k))]) h = mx_D (1, mm_X11_kindOf, 137, [.long a, mx_junk, .long b, mx_junk, .int (iI (k))], [.int (iI (kdF a b k (61, 9)))]) h := by
  rw [e_X11_kindOf_114]
  simp only [lg0]
  unfold kdF
  by_cases q1 : a = 61
  · by_cases q2 : b = 0
    · rw [if_pos q1, if_pos q2, if_pos ⟨q1, q2⟩]; rfl
    · rw [if_pos q1, if_neg q2, if_neg (fun z => q2 z.2), e_X11_kindOf_135] <;> rfl
  · rw [if_neg q1, if_neg (fun z => q1 z.1), e_X11_kindOf_135] <;> rfl
theorem kd_6 (a b : Int64) (v4 : Int32) (k : Int) (h : mx_H) : mx_D (1, mm_X11_kindOf, 137, [.long a, mx_junk, .long b, mx_junk, .int v4], [.int (iI (k))]) h = mx_D (1, mm_X11_kindOf, 160, [.long a, mx_junk, .long b, mx_junk, .int (iI (k))], [.int (iI (kdF a b k (8386668330298337636, 10)))]) h := by
  rw [e_X11_kindOf_137]
  simp only [lg0]
  unfold kdF
  by_cases q1 : a = 8386668330298337636
  · by_cases q2 : b = 0
    · rw [if_pos q1, if_pos q2, if_pos ⟨q1, q2⟩]; rfl
    · rw [if_pos q1, if_neg q2, if_neg (fun z => q2 z.2), e_X11_kindOf_158] <;> rfl
  · rw [if_neg q1, if_neg (fun z => q1 z.1), e_X11_kindOf_158] <;> rfl
theorem kd_7 (a b : Int64) (v4 : Int32) (k : Int) (h : mx_H) : mx_D (1, mm_X11_kindOf, 160, [.long a, mx_junk, .long b, mx_junk, .int v4], [.int (iI (k))]) h = mx_D (1, mm_X11_kindOf, 183, [.long a, mx_junk, .long b, mx_junk, .int (iI (k))], [.int (iI (kdF a b k (6648937, 11)))]) h := by
  rw [e_X11_kindOf_160]
  simp only [lg0]
  unfold kdF
  by_cases q1 : a = 6648937
  · by_cases q2 : b = 0
    · rw [if_pos q1, if_pos q2, if_pos ⟨q1, q2⟩]; rfl
    · rw [if_pos q1, if_neg q2, if_neg (fun z => q2 z.2), e_X11_kindOf_181] <;> rfl
  · rw [if_neg q1, if_neg (fun z => q1 z.1), e_X11_kindOf_181] <;> rfl
theorem kd_8 (a b : Int64) (v4 : Int32) (k : Int) (h : mx_H) : mx_D (1, mm_X11_kindOf, 183, [.long a, mx_junk, .long b, mx_junk, .int v4], [.int (iI (k))]) h = mx_D (1, mm_X11_kindOf, 206, [.long a, mx_junk, .long b, mx_junk, .int (iI (k))], [.int (iI (kdF a b k (500085716578, 12)))]) h := by
  rw [e_X11_kindOf_183]
  simp only [lg0]
  unfold kdF
  by_cases q1 : a = 500085716578
  · by_cases q2 : b = 0
    · rw [if_pos q1, if_pos q2, if_pos ⟨q1, q2⟩]; rfl
    · rw [if_pos q1, if_neg q2, if_neg (fun z => q2 z.2), e_X11_kindOf_204] <;> rfl
  · rw [if_neg q1, if_neg (fun z => q1 z.1), e_X11_kindOf_204] <;> rfl
theorem kd_9 (a b : Int64) (v4 : Int32) (k : Int) (h : mx_H) : mx_D (1, mm_X11_kindOf, 206, [.long a, mx_junk, .long b, mx_junk, .int v4], [.int (iI (k))]) h = mx_D (1, mm_X11_kindOf, 229, [.long a, mx_junk, .long b, mx_junk, .int (iI (k))], [.int (iI (kdF a b k (444083369570, 13)))]) h := by
  rw [e_X11_kindOf_206]
  simp only [lg0]
  unfold kdF
  by_cases q1 : a = 444083369570
  · by_cases q2 : b = 0
    · rw [if_pos q1, if_pos q2, if_pos ⟨q1, q2⟩]; rfl
    · rw [if_pos q1, if_neg q2, if_neg (fun z => q2 z.2), e_X11_kindOf_227] <;> rfl
  · rw [if_neg q1, if_neg (fun z => q1 z.1), e_X11_kindOf_227] <;> rfl
theorem kd_10 (a b : Int64) (v4 : Int32) (k : Int) (h : mx_H) : mx_D (1, mm_X11_kindOf, 229, [.long a, mx_junk, .long b, mx_junk, .int v4], [.int (iI (k))]) h = mx_D (1, mm_X11_kindOf, 252, [.long a, mx_junk, .long b, mx_junk, .int (iI (k))], [.int (iI (kdF a b k (431348610658, 14)))]) h := by
  rw [e_X11_kindOf_229]
  simp only [lg0]
  unfold kdF
  by_cases q1 : a = 431348610658
  · by_cases q2 : b = 0
    · rw [if_pos q1, if_pos q2, if_pos ⟨q1, q2⟩]; rfl
    · rw [if_pos q1, if_neg q2, if_neg (fun z => q2 z.2), e_X11_kindOf_250] <;> rfl
  · rw [if_neg q1, if_neg (fun z => q1 z.1), e_X11_kindOf_250] <;> rfl
theorem kd_11 (a b : Int64) (v4 : Int32) (k : Int) (h : mx_H) : mx_D (1, mm_X11_kindOf, 252, [.long a, mx_junk, .long b, mx_junk, .int v4], [.int (iI (k))]) h = mx_D (1, mm_X11_kindOf, 275, [.long a, mx_junk, .long b, mx_junk, .int (iI (k))], [.int (iI (kdF a b k (1919907426, 15)))]) h := by
  rw [e_X11_kindOf_252]
  simp only [lg0]
  unfold kdF
  by_cases q1 : a = 1919907426
  · by_cases q2 : b = 0
    · rw [if_pos q1, if_pos q2, if_pos ⟨q1, q2⟩]; rfl
    · rw [if_pos q1, if_neg q2, if_neg (fun z => q2 z.2), e_X11_kindOf_273] <;> rfl
  · rw [if_neg q1, if_neg (fun z => q1 z.1), e_X11_kindOf_273] <;> rfl
theorem kd_12 (a b : Int64) (v4 : Int32) (k : Int) (h : mx_H) : mx_D (1, mm_X11_kindOf, 275, [.long a, mx_junk, .long b, mx_junk, .int v4], [.int (iI (k))]) h = mx_D (1, mm_X11_kindOf, 298, [.long a, mx_junk, .long b, mx_junk, .int (iI (k))], [.int (iI (kdF a b k (491496437346, 16)))]) h := by
  rw [e_X11_kindOf_275]
  simp only [lg0]
  unfold kdF
  by_cases q1 : a = 491496437346
  · by_cases q2 : b = 0
    · rw [if_pos q1, if_pos q2, if_pos ⟨q1, q2⟩]; rfl
    · rw [if_pos q1, if_neg q2, if_neg (fun z => q2 z.2), e_X11_kindOf_296] <;> rfl
  · rw [if_neg q1, if_neg (fun z => q1 z.1), e_X11_kindOf_296] <;> rfl
theorem kd_13 (a b : Int64) (v4 : Int32) (k : Int) (h : mx_H) : mx_D (1, mm_X11_kindOf, 298, [.long a, mx_junk, .long b, mx_junk, .int v4], [.int (iI (k))]) h = mx_D (1, mm_X11_kindOf, 321, [.long a, mx_junk, .long b, mx_junk, .int (iI (k))], [.int (iI (kdF a b k (431180838498, 17)))]) h := by
  rw [e_X11_kindOf_298]
  simp only [lg0]
  unfold kdF
  by_cases q1 : a = 431180838498
  · by_cases q2 : b = 0
    · rw [if_pos q1, if_pos q2, if_pos ⟨q1, q2⟩]; rfl
    · rw [if_pos q1, if_neg q2, if_neg (fun z => q2 z.2), e_X11_kindOf_319] <;> rfl
  · rw [if_neg q1, if_neg (fun z => q1 z.1), e_X11_kindOf_319] <;> rfl
theorem kd_14 (a b : Int64) (v4 : Int32) (k : Int) (h : mx_H) : mx_D (1, mm_X11_kindOf, 321, [.long a, mx_junk, .long b, mx_junk, .int v4], [.int (iI (k))]) h = mx_D (1, mm_X11_kindOf, 344, [.long a, mx_junk, .long b, mx_junk, .int (iI (k))], [.int (iI (kdF a b k (422877296226, 18)))]) h := by
  rw [e_X11_kindOf_321]
  simp only [lg0]
  unfold kdF
  by_cases q1 : a = 422877296226
  · by_cases q2 : b = 0
    · rw [if_pos q1, if_pos q2, if_pos ⟨q1, q2⟩]; rfl
    · rw [if_pos q1, if_neg q2, if_neg (fun z => q2 z.2), e_X11_kindOf_342] <;> rfl
  · rw [if_neg q1, if_neg (fun z => q1 z.1), e_X11_kindOf_342] <;> rfl
theorem kd_15 (a b : Int64) (v4 : Int32) (k : Int) (h : mx_H) : mx_D (1, mm_X11_kindOf, 344, [.long a, mx_junk, .long b, mx_junk, .int v4], [.int (iI (k))]) h = mx_D (1, mm_X11_kindOf, 367, [.long a, mx_junk, .long b, mx_junk, .int (iI (k))], [.int (iI (kdF a b k (465826575970, 19)))]) h := by
  rw [e_X11_kindOf_344]
  simp only [lg0]
  unfold kdF
  by_cases q1 : a = 465826575970
  · by_cases q2 : b = 0
    · rw [if_pos q1, if_pos q2, if_pos ⟨q1, q2⟩]; rfl
    · rw [if_pos q1, if_neg q2, if_neg (fun z => q2 z.2), e_X11_kindOf_365] <;> rfl
  · rw [if_neg q1, if_neg (fun z => q1 z.1), e_X11_kindOf_365] <;> rfl
theorem kd_16 (a b : Int64) (v4 : Int32) (k : Int) (h : mx_H) : mx_D (1, mm_X11_kindOf, 367, [.long a, mx_junk, .long b, mx_junk, .int v4], [.int (iI (k))]) h = mx_D (1, mm_X11_kindOf, 390, [.long a, mx_junk, .long b, mx_junk, .int (iI (k))], [.int (iI (kdF a b k (130195029063266, 20)))]) h := by
  rw [e_X11_kindOf_367]
  simp only [lg0]
  unfold kdF
  by_cases q1 : a = 130195029063266
  · by_cases q2 : b = 0
    · rw [if_pos q1, if_pos q2, if_pos ⟨q1, q2⟩]; rfl
    · rw [if_pos q1, if_neg q2, if_neg (fun z => q2 z.2), e_X11_kindOf_388] <;> rfl
  · rw [if_neg q1, if_neg (fun z => q1 z.1), e_X11_kindOf_388] <;> rfl
theorem kd_17 (a b : Int64) (v4 : Int32) (k : Int) (h : mx_H) : mx_D (1, mm_X11_kindOf, 390, [.long a, mx_junk, .long b, mx_junk, .int v4], [.int (iI (k))]) h = mx_D (1, mm_X11_kindOf, 413, [.long a, mx_junk, .long b, mx_junk, .int (iI (k))], [.int (iI (kdF a b k (120282479425122, 21)))]) h := by
  rw [e_X11_kindOf_390]
  simp only [lg0]
  unfold kdF
  by_cases q1 : a = 120282479425122
  · by_cases q2 : b = 0
    · rw [if_pos q1, if_pos q2, if_pos ⟨q1, q2⟩]; rfl
    · rw [if_pos q1, if_neg q2, if_neg (fun z => q2 z.2), e_X11_kindOf_411] <;> rfl
  · rw [if_neg q1, if_neg (fun z => q1 z.1), e_X11_kindOf_411] <;> rfl
theorem kd_18 (a b : Int64) (v4 : Int32) (k : Int) (h : mx_H) : mx_D (1, mm_X11_kindOf, 413, [.long a, mx_junk, .long b, mx_junk, .int v4], [.int (iI (k))]) h = mx_D (1, mm_X11_kindOf, 436, [.long a, mx_junk, .long b, mx_junk, .int (iI (k))], [.int (iI (kdF a b k (465608865378, 22)))]) h := by
  rw [e_X11_kindOf_413]
  simp only [lg0]
  unfold kdF
  by_cases q1 : a = 465608865378
  · by_cases q2 : b = 0
    · rw [if_pos q1, if_pos q2, if_pos ⟨q1, q2⟩]; rfl
    · rw [if_pos q1, if_neg q2, if_neg (fun z => q2 z.2), e_X11_kindOf_434] <;> rfl
  · rw [if_neg q1, if_neg (fun z => q1 z.1), e_X11_kindOf_434] <;> rfl
theorem kd_19 (a b : Int64) (v4 : Int32) (k : Int) (h : mx_H) : mx_D (1, mm_X11_kindOf, 436, [.long a, mx_junk, .long b, mx_junk, .int v4], [.int (iI (k))]) h = mx_D (1, mm_X11_kindOf, 459, [.long a, mx_junk, .long b, mx_junk, .int (iI (k))], [.int (iI (kdF a b k (125792938653282, 23)))]) h := by
  rw [e_X11_kindOf_436]
  simp only [lg0]
  unfold kdF
  by_cases q1 : a = 125792938653282
  · by_cases q2 : b = 0
    · rw [if_pos q1, if_pos q2, if_pos ⟨q1, q2⟩]; rfl
    · rw [if_pos q1, if_neg q2, if_neg (fun z => q2 z.2), e_X11_kindOf_457] <;> rfl
  · rw [if_neg q1, if_neg (fun z => q1 z.1), e_X11_kindOf_457] <;> rfl
theorem kd_20 (a b : Int64) (v4 : Int32) (k : Int) (h : mx_H) : mx_D (1, mm_X11_kindOf, 459, [.long a, mx_junk, .long b, mx_junk, .int v4], [.int (iI (k))]) h = mx_D (1, mm_X11_kindOf, 482, [.long a, mx_junk, .long b, mx_junk, .int (iI (k))], [.int (iI (kdF a b k (125792937932386, 24)))]) h := by
  rw [e_X11_kindOf_459]
  simp only [lg0]
  unfold kdF
  by_cases q1 : a = 125792937932386
  · by_cases q2 : b = 0
    · rw [if_pos q1, if_pos q2, if_pos ⟨q1, q2⟩]; rfl
    · rw [if_pos q1, if_neg q2, if_neg (fun z => q2 z.2), e_X11_kindOf_480] <;> rfl
  · rw [if_neg q1, if_neg (fun z => q1 z.1), e_X11_kindOf_480] <;> rfl
theorem kd_21 (a b : Int64) (v4 : Int32) (k : Int) (h : mx_H) : mx_D (1, mm_X11_kindOf, 482, [.long a, mx_junk, .long b, mx_junk, .int v4], [.int (iI (k))]) h = mx_D (1, mm_X11_kindOf, 505, [.long a, mx_junk, .long b, mx_junk, .int (iI (k))], [.int (iI (kdF a b k (500035843682, 25)))]) h := by
  rw [e_X11_kindOf_482]
  simp only [lg0]
  unfold kdF
  by_cases q1 : a = 500035843682
  · by_cases q2 : b = 0
    · rw [if_pos q1, if_pos q2, if_pos ⟨q1, q2⟩]; rfl
    · rw [if_pos q1, if_neg q2, if_neg (fun z => q2 z.2), e_X11_kindOf_503] <;> rfl
  · rw [if_neg q1, if_neg (fun z => q1 z.1), e_X11_kindOf_503] <;> rfl
theorem kd_22 (a b : Int64) (v4 : Int32) (k : Int) (h : mx_H) : mx_D (1, mm_X11_kindOf, 505, [.long a, mx_junk, .long b, mx_junk, .int v4], [.int (iI (k))]) h = mx_D (1, mm_X11_kindOf, 528, [.long a, mx_junk, .long b, mx_junk, .int (iI (k))], [.int (iI (kdF a b k (435611334242, 26)))]) h := by
  rw [e_X11_kindOf_505]
  simp only [lg0]
  unfold kdF
  by_cases q1 : a = 435611334242
  · by_cases q2 : b = 0
    · rw [if_pos q1, if_pos q2, if_pos ⟨q1, q2⟩]; rfl
    · rw [if_pos q1, if_neg q2, if_neg (fun z => q2 z.2), e_X11_kindOf_526] <;> rfl
  · rw [if_neg q1, if_neg (fun z => q1 z.1), e_X11_kindOf_526] <;> rfl
theorem kd_23 (a b : Int64) (v4 : Int32) (k : Int) (h : mx_H) : mx_D (1, mm_X11_kindOf, 528, [.long a, mx_junk, .long b, mx_junk, .int v4], [.int (iI (k))]) h = mx_D (1, mm_X11_kindOf, 551, [.long a, mx_junk, .long b, mx_junk, .int (iI (k))], [.int (iI (kdF a b k (500035712610, 27)))]) h := by
  rw [e_X11_kindOf_528]
  simp only [lg0]
  unfold kdF
  by_cases q1 : a = 500035712610
  · by_cases q2 : b = 0
    · rw [if_pos q1, if_pos q2, if_pos ⟨q1, q2⟩]; rfl
    · rw [if_pos q1, if_neg q2, if_neg (fun z => q2 z.2), e_X11_kindOf_549] <;> rfl
  · rw [if_neg q1, if_neg (fun z => q1 z.1), e_X11_kindOf_549] <;> rfl
theorem kd_24 (a b : Int64) (v4 : Int32) (k : Int) (h : mx_H) : mx_D (1, mm_X11_kindOf, 551, [.long a, mx_junk, .long b, mx_junk, .int v4], [.int (iI (k))]) h = mx_D (1, mm_X11_kindOf, 574, [.long a, mx_junk, .long b, mx_junk, .int (iI (k))], [.int (iI (kdF a b k (435611203170, 28)))]) h := by
  rw [e_X11_kindOf_551]
  simp only [lg0]
  unfold kdF
  by_cases q1 : a = 435611203170
  · by_cases q2 : b = 0
    · rw [if_pos q1, if_pos q2, if_pos ⟨q1, q2⟩]; rfl
    · rw [if_pos q1, if_neg q2, if_neg (fun z => q2 z.2), e_X11_kindOf_572] <;> rfl
  · rw [if_neg q1, if_neg (fun z => q1 z.1), e_X11_kindOf_572] <;> rfl
theorem kd_25 (a b : Int64) (v4 : Int32) (k : Int) (h : mx_H) : mx_D (1, mm_X11_kindOf, 574, [.long a, mx_junk, .long b, mx_junk, .int v4], [.int (iI (k))]) h = mx_D (1, mm_X11_kindOf, 597, [.long a, mx_junk, .long b, mx_junk, .int (iI (k))], [.int (iI (kdF a b k (127961628831587, 29)))]) h := by
  rw [e_X11_kindOf_574]
  simp only [lg0]
  unfold kdF
  by_cases q1 : a = 127961628831587
  · by_cases q2 : b = 0
    · rw [if_pos q1, if_pos q2, if_pos ⟨q1, q2⟩]; rfl
    · rw [if_pos q1, if_neg q2, if_neg (fun z => q2 z.2), e_X11_kindOf_595] <;> rfl
  · rw [if_neg q1, if_neg (fun z => q1 z.1), e_X11_kindOf_595] <;> rfl
theorem kd_26 (a b : Int64) (v4 : Int32) (k : Int) (h : mx_H) : mx_D (1, mm_X11_kindOf, 597, [.long a, mx_junk, .long b, mx_junk, .int v4], [.int (iI (k))]) h = mx_D (1, mm_X11_kindOf, 620, [.long a, mx_junk, .long b, mx_junk, .int (iI (k))], [.int (iI (kdF a b k (127970252186995, 33)))]) h := by
  rw [e_X11_kindOf_597]
  simp only [lg0]
  unfold kdF
  by_cases q1 : a = 127970252186995
  · by_cases q2 : b = 0
    · rw [if_pos q1, if_pos q2, if_pos ⟨q1, q2⟩]; rfl
    · rw [if_pos q1, if_neg q2, if_neg (fun z => q2 z.2), e_X11_kindOf_618] <;> rfl
  · rw [if_neg q1, if_neg (fun z => q1 z.1), e_X11_kindOf_618] <;> rfl
theorem kd_27 (a b : Int64) (v4 : Int32) (k : Int) (h : mx_H) : mx_D (1, mm_X11_kindOf, 620, [.long a, mx_junk, .long b, mx_junk, .int v4], [.int (iI (k))]) h = mx_D (1, mm_X11_kindOf, 643, [.long a, mx_junk, .long b, mx_junk, .int (iI (k))], [.int (iI (kdF a b k (435711603827, 34)))]) h := by
  rw [e_X11_kindOf_620]
  simp only [lg0]
  unfold kdF
  by_cases q1 : a = 435711603827
  · by_cases q2 : b = 0
    · rw [if_pos q1, if_pos q2, if_pos ⟨q1, q2⟩]; rfl
    · rw [if_pos q1, if_neg q2, if_neg (fun z => q2 z.2), e_X11_kindOf_641] <;> rfl
  · rw [if_neg q1, if_neg (fun z => q1 z.1), e_X11_kindOf_641] <;> rfl
theorem kd_28 (a b : Int64) (v4 : Int32) (k : Int) (h : mx_H) : mx_D (1, mm_X11_kindOf, 643, [.long a, mx_junk, .long b, mx_junk, .int v4], [.int (iI (k))]) h = mx_D (1, mm_X11_kindOf, 666, [.long a, mx_junk, .long b, mx_junk, .int (iI (k))], [.int (iI (kdF a b k (7628140, 35)))]) h := by
  rw [e_X11_kindOf_643]
  simp only [lg0]
  unfold kdF
  by_cases q1 : a = 7628140
  · by_cases q2 : b = 0
    · rw [if_pos q1, if_pos q2, if_pos ⟨q1, q2⟩]; rfl
    · rw [if_pos q1, if_neg q2, if_neg (fun z => q2 z.2), e_X11_kindOf_664] <;> rfl
  · rw [if_neg q1, if_neg (fun z => q1 z.1), e_X11_kindOf_664] <;> rfl
theorem X11_kindOf_c (a b : Int64) (h : mx_H) : mx_C mm_X11_kindOf [.long a, .long b] h = some (some (.int (iI (kdL.foldl (kdF a b) (-1)))), h) := by
  rw [c_X11_kindOf, kd_0, kd_1, kd_2, kd_3, kd_4, kd_5, kd_6, kd_7, kd_8, kd_9, kd_10, kd_11, kd_12, kd_13, kd_14, kd_15, kd_16, kd_17, kd_18, kd_19, kd_20, kd_21, kd_22, kd_23, kd_24, kd_25, kd_26, kd_27, kd_28, e_X11_kindOf_666]
  rfl
