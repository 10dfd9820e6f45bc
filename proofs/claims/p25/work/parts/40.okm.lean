/-! the bounds of the model's state -/
def okS (S : gS) : Prop := bnd (S.1 1) (0) 9 ∧ bnd (S.1 2) (0) 6 ∧ bnd (S.1 3) (0) 40 ∧ (∀ k : Int, 0 ≤ S.1 4 (5 * k) ∧ S.1 4 (5 * k) ≤ 79) ∧ (∀ k : Int, 0 ≤ S.1 4 (5 * k + 1) ∧ S.1 4 (5 * k + 1) ≤ 5) ∧ (∀ k : Int, 0 ≤ S.1 4 (5 * k + 2) ∧ S.1 4 (5 * k + 2) ≤ 30) ∧ (∀ k : Int, 0 ≤ S.1 4 (5 * k + 3) ∧ S.1 4 (5 * k + 3) ≤ 1) ∧ (∀ k : Int, 0 ≤ S.1 5 (2 * k) ∧ S.1 5 (2 * k) ≤ 79) ∧ (∀ k : Int, 0 ≤ S.1 5 (2 * k + 1) ∧ S.1 5 (2 * k + 1) ≤ 20) ∧ (∀ k : Int, 0 ≤ S.1 6 (2 * k) ∧ S.1 6 (2 * k) ≤ 79) ∧ (∀ k : Int, 0 ≤ S.1 6 (2 * k + 1) ∧ S.1 6 (2 * k + 1) ≤ 20) ∧ (∀ k : Int, 0 ≤ S.1 7 (4 * k) ∧ S.1 7 (4 * k) ≤ 79) ∧ (∀ k : Int, 0 ≤ S.1 7 (4 * k + 1) ∧ S.1 7 (4 * k + 1) ≤ 6) ∧ (∀ k : Int, 0 ≤ S.1 7 (4 * k + 2) ∧ S.1 7 (4 * k + 2) ≤ 3) ∧ (∀ k : Int, -1 ≤ S.1 7 (4 * k + 3) ∧ S.1 7 (4 * k + 3) ≤ 3) ∧ (∀ k : Int, 0 ≤ S.1 8 (2 * k) ∧ S.1 8 (2 * k) ≤ 79)
theorem okS_1 {S : gS} (h : okS S) : bnd (S.1 1) (0) 9 := h.1
theorem okS_2 {S : gS} (h : okS S) : bnd (S.1 2) (0) 6 := h.2.1
theorem okS_3 {S : gS} (h : okS S) : bnd (S.1 3) (0) 40 := h.2.2.1
theorem okS_40 {S : gS} (h : okS S) : (∀ k : Int, 0 ≤ S.1 4 (5 * k) ∧ S.1 4 (5 * k) ≤ 79) := h.2.2.2.1
theorem okS_41 {S : gS} (h : okS S) : (∀ k : Int, 0 ≤ S.1 4 (5 * k + 1) ∧ S.1 4 (5 * k + 1) ≤ 5) := h.2.2.2.2.1
theorem okS_42 {S : gS} (h : okS S) : (∀ k : Int, 0 ≤ S.1 4 (5 * k + 2) ∧ S.1 4 (5 * k + 2) ≤ 30) := h.2.2.2.2.2.1
theorem okS_43 {S : gS} (h : okS S) : (∀ k : Int, 0 ≤ S.1 4 (5 * k + 3) ∧ S.1 4 (5 * k + 3) ≤ 1) := h.2.2.2.2.2.2.1
theorem okS_50 {S : gS} (h : okS S) : (∀ k : Int, 0 ≤ S.1 5 (2 * k) ∧ S.1 5 (2 * k) ≤ 79) := h.2.2.2.2.2.2.2.1
theorem okS_51 {S : gS} (h : okS S) : (∀ k : Int, 0 ≤ S.1 5 (2 * k + 1) ∧ S.1 5 (2 * k + 1) ≤ 20) := h.2.2.2.2.2.2.2.2.1
theorem okS_60 {S : gS} (h : okS S) : (∀ k : Int, 0 ≤ S.1 6 (2 * k) ∧ S.1 6 (2 * k) ≤ 79) := h.2.2.2.2.2.2.2.2.2.1
theorem okS_61 {S : gS} (h : okS S) : (∀ k : Int, 0 ≤ S.1 6 (2 * k + 1) ∧ S.1 6 (2 * k + 1) ≤ 20) := h.2.2.2.2.2.2.2.2.2.2.1
theorem okS_70 {S : gS} (h : okS S) : (∀ k : Int, 0 ≤ S.1 7 (4 * k) ∧ S.1 7 (4 * k) ≤ 79) := h.2.2.2.2.2.2.2.2.2.2.2.1
theorem okS_71 {S : gS} (h : okS S) : (∀ k : Int, 0 ≤ S.1 7 (4 * k + 1) ∧ S.1 7 (4 * k + 1) ≤ 6) := h.2.2.2.2.2.2.2.2.2.2.2.2.1
theorem okS_72 {S : gS} (h : okS S) : (∀ k : Int, 0 ≤ S.1 7 (4 * k + 2) ∧ S.1 7 (4 * k + 2) ≤ 3) := h.2.2.2.2.2.2.2.2.2.2.2.2.2.1
theorem okS_73 {S : gS} (h : okS S) : (∀ k : Int, -1 ≤ S.1 7 (4 * k + 3) ∧ S.1 7 (4 * k + 3) ≤ 3) := h.2.2.2.2.2.2.2.2.2.2.2.2.2.2.1
theorem okS_80 {S : gS} (h : okS S) : (∀ k : Int, 0 ≤ S.1 8 (2 * k) ∧ S.1 8 (2 * k) ≤ 79) := h.2.2.2.2.2.2.2.2.2.2.2.2.2.2.2
theorem okS_s1 {S : gS} {f : Int → Int} (h : okS S) (h0 : bnd f (0) 9) : okS (setA S 1 f) := ⟨h0, okS_2 (S := S) h, okS_3 (S := S) h, okS_40 (S := S) h, okS_41 (S := S) h, okS_42 (S := S) h, okS_43 (S := S) h, okS_50 (S := S) h, okS_51 (S := S) h, okS_60 (S := S) h, okS_61 (S := S) h, okS_70 (S := S) h, okS_71 (S := S) h, okS_72 (S := S) h, okS_73 (S := S) h, okS_80 (S := S) h⟩
theorem okS_s2 {S : gS} {f : Int → Int} (h : okS S) (h0 : bnd f (0) 6) : okS (setA S 2 f) := ⟨okS_1 (S := S) h, h0, okS_3 (S := S) h, okS_40 (S := S) h, okS_41 (S := S) h, okS_42 (S := S) h, okS_43 (S := S) h, okS_50 (S := S) h, okS_51 (S := S) h, okS_60 (S := S) h, okS_61 (S := S) h, okS_70 (S := S) h, okS_71 (S := S) h, okS_72 (S := S) h, okS_73 (S := S) h, okS_80 (S := S) h⟩
theorem okS_s3 {S : gS} {f : Int → Int} (h : okS S) (h0 : bnd f (0) 40) : okS (setA S 3 f) := ⟨okS_1 (S := S) h, okS_2 (S := S) h, h0, okS_40 (S := S) h, okS_41 (S := S) h, okS_42 (S := S) h, okS_43 (S := S) h, okS_50 (S := S) h, okS_51 (S := S) h, okS_60 (S := S) h, okS_61 (S := S) h, okS_70 (S := S) h, okS_71 (S := S) h, okS_72 (S := S) h, okS_73 (S := S) h, okS_80 (S := S) h⟩
theorem okS_s4 {S : gS} {f : Int → Int} (h : okS S) (h0 : (∀ k : Int, 0 ≤ f (5 * k) ∧ f (5 * k) ≤ 79)) (h1 : (∀ k : Int, 0 ≤ f (5 * k + 1) ∧ f (5 * k + 1) ≤ 5)) (h2 : (∀ k : Int, 0 ≤ f (5 * k + 2) ∧ f (5 * k + 2) ≤ 30)) (h3 : (∀ k : Int, 0 ≤ f (5 * k + 3) ∧ f (5 * k + 3) ≤ 1)) : okS (setA S 4 f) := ⟨okS_1 (S := S) h, okS_2 (S := S) h, okS_3 (S := S) h, h0, h1, h2, h3, okS_50 (S := S) h, okS_51 (S := S) h, okS_60 (S := S) h, okS_61 (S := S) h, okS_70 (S := S) h, okS_71 (S := S) h, okS_72 (S := S) h, okS_73 (S := S) h, okS_80 (S := S) h⟩
theorem okS_s5 {S : gS} {f : Int → Int} (h : okS S) (h0 : (∀ k : Int, 0 ≤ f (2 * k) ∧ f (2 * k) ≤ 79)) (h1 : (∀ k : Int, 0 ≤ f (2 * k + 1) ∧ f (2 * k + 1) ≤ 20)) : okS (setA S 5 f) := ⟨okS_1 (S := S) h, okS_2 (S := S) h, okS_3 (S := S) h, okS_40 (S := S) h, okS_41 (S := S) h, okS_42 (S := S) h, okS_43 (S := S) h, h0, h1, okS_60 (S := S) h, okS_61 (S := S) h, okS_70 (S := S) h, okS_71 (S := S) h, okS_72 (S := S) h, okS_73 (S := S) h, okS_80 (S := S) h⟩
theorem okS_s6 {S : gS} {f : Int → Int} (h : okS S) (h0 : (∀ k : Int, 0 ≤ f (2 * k) ∧ f (2 * k) ≤ 79)) (h1 : (∀ k : Int, 0 ≤ f (2 * k + 1) ∧ f (2 * k + 1) ≤ 20)) : okS (setA S 6 f) := ⟨okS_1 (S := S) h, okS_2 (S := S) h, okS_3 (S := S) h, okS_40 (S := S) h, okS_41 (S := S) h, okS_42 (S := S) h, okS_43 (S := S) h, okS_50 (S := S) h, okS_51 (S := S) h, h0, h1, okS_70 (S := S) h, okS_71 (S := S) h, okS_72 (S := S) h, okS_73 (S := S) h, okS_80 (S := S) h⟩
theorem okS_s7 {S : gS} {f : Int → Int} (h : okS S) (h0 : (∀ k : Int, 0 ≤ f (4 * k) ∧ f (4 * k) ≤ 79)) (h1 : (∀ k : Int, 0 ≤ f (4 * k + 1) ∧ f (4 * k + 1) ≤ 6)) (h2 : (∀ k : Int, 0 ≤ f (4 * k + 2) ∧ f (4 * k + 2) ≤ 3)) (h3 : (∀ k : Int, -1 ≤ f (4 * k + 3) ∧ f (4 * k + 3) ≤ 3)) : okS (setA S 7 f) := ⟨okS_1 (S := S) h, okS_2 (S := S) h, okS_3 (S := S) h, okS_40 (S := S) h, okS_41 (S := S) h, okS_42 (S := S) h, okS_43 (S := S) h, okS_50 (S := S) h, okS_51 (S := S) h, okS_60 (S := S) h, okS_61 (S := S) h, h0, h1, h2, h3, okS_80 (S := S) h⟩
theorem okS_s8 {S : gS} {f : Int → Int} (h : okS S) (h0 : (∀ k : Int, 0 ≤ f (2 * k) ∧ f (2 * k) ≤ 79)) : okS (setA S 8 f) := ⟨okS_1 (S := S) h, okS_2 (S := S) h, okS_3 (S := S) h, okS_40 (S := S) h, okS_41 (S := S) h, okS_42 (S := S) h, okS_43 (S := S) h, okS_50 (S := S) h, okS_51 (S := S) h, okS_60 (S := S) h, okS_61 (S := S) h, okS_70 (S := S) h, okS_71 (S := S) h, okS_72 (S := S) h, okS_73 (S := S) h, h0⟩
theorem okS_j0 {S : gS} {x : Int} (h : okS S) : okS (setI S 0 x) := h
theorem okS_j1 {S : gS} {x : Int} (h : okS S) : okS (setI S 1 x) := h
def okMA (S : gS) : Prop := bnd (S.1 1) (0) 12 ∧ bnd (S.1 2) (-1) 1000 ∧ bnd (S.1 3) (0) 79 ∧ bnd (S.1 4) (0) 55 ∧ bnd (S.1 5) (-100000) 100000
def okMI (S : gS) : Prop := (0 ≤ S.2 1 ∧ S.2 1 ≤ 5) ∧ (0 ≤ S.2 2 ∧ S.2 2 ≤ 4) ∧ (0 ≤ S.2 3 ∧ S.2 3 ≤ 4) ∧ (0 ≤ S.2 4 ∧ S.2 4 ≤ 10) ∧ (0 ≤ S.2 5 ∧ S.2 5 ≤ 3)
def okM (S : gS) : Prop := okMA S ∧ okMI S
theorem okM_1 {S : gS} (h : okM S) : bnd (S.1 1) (0) 12 := h.1.1
theorem okM_2 {S : gS} (h : okM S) : bnd (S.1 2) (-1) 1000 := h.1.2.1
theorem okM_3 {S : gS} (h : okM S) : bnd (S.1 3) (0) 79 := h.1.2.2.1
theorem okM_4 {S : gS} (h : okM S) : bnd (S.1 4) (0) 55 := h.1.2.2.2.1
theorem okM_5 {S : gS} (h : okM S) : bnd (S.1 5) (-100000) 100000 := h.1.2.2.2.2
theorem okM_i1 {S : gS} (h : okM S) : 0 ≤ S.2 1 ∧ S.2 1 ≤ 5 := h.2.1
theorem okM_i2 {S : gS} (h : okM S) : 0 ≤ S.2 2 ∧ S.2 2 ≤ 4 := h.2.2.1
theorem okM_i3 {S : gS} (h : okM S) : 0 ≤ S.2 3 ∧ S.2 3 ≤ 4 := h.2.2.2.1
theorem okM_i4 {S : gS} (h : okM S) : 0 ≤ S.2 4 ∧ S.2 4 ≤ 10 := h.2.2.2.2.1
theorem okM_i5 {S : gS} (h : okM S) : 0 ≤ S.2 5 ∧ S.2 5 ≤ 3 := h.2.2.2.2.2
theorem okM_s1 {S : gS} {f : Int → Int} (h : okM S) (hf : bnd f (0) 12) : okM (setA S 1 f) := ⟨⟨hf, okM_2 (S := S) h, okM_3 (S := S) h, okM_4 (S := S) h, okM_5 (S := S) h⟩, h.2⟩
theorem okM_s2 {S : gS} {f : Int → Int} (h : okM S) (hf : bnd f (-1) 1000) : okM (setA S 2 f) := ⟨⟨okM_1 (S := S) h, hf, okM_3 (S := S) h, okM_4 (S := S) h, okM_5 (S := S) h⟩, h.2⟩
theorem okM_s3 {S : gS} {f : Int → Int} (h : okM S) (hf : bnd f (0) 79) : okM (setA S 3 f) := ⟨⟨okM_1 (S := S) h, okM_2 (S := S) h, hf, okM_4 (S := S) h, okM_5 (S := S) h⟩, h.2⟩
theorem okM_s4 {S : gS} {f : Int → Int} (h : okM S) (hf : bnd f (0) 55) : okM (setA S 4 f) := ⟨⟨okM_1 (S := S) h, okM_2 (S := S) h, okM_3 (S := S) h, hf, okM_5 (S := S) h⟩, h.2⟩
theorem okM_s5 {S : gS} {f : Int → Int} (h : okM S) (hf : bnd f (-100000) 100000) : okM (setA S 5 f) := ⟨⟨okM_1 (S := S) h, okM_2 (S := S) h, okM_3 (S := S) h, okM_4 (S := S) h, hf⟩, h.2⟩
theorem okM_j1 {S : gS} {x : Int} (h : okM S) (hf : 0 ≤ x ∧ x ≤ 5) : okM (setI S 1 x) := ⟨h.1, ⟨hf, okM_i2 (S := S) h, okM_i3 (S := S) h, okM_i4 (S := S) h, okM_i5 (S := S) h⟩⟩
theorem okM_j2 {S : gS} {x : Int} (h : okM S) (hf : 0 ≤ x ∧ x ≤ 4) : okM (setI S 2 x) := ⟨h.1, ⟨okM_i1 (S := S) h, hf, okM_i3 (S := S) h, okM_i4 (S := S) h, okM_i5 (S := S) h⟩⟩
theorem okM_j3 {S : gS} {x : Int} (h : okM S) (hf : 0 ≤ x ∧ x ≤ 4) : okM (setI S 3 x) := ⟨h.1, ⟨okM_i1 (S := S) h, okM_i2 (S := S) h, hf, okM_i4 (S := S) h, okM_i5 (S := S) h⟩⟩
theorem okM_j4 {S : gS} {x : Int} (h : okM S) (hf : 0 ≤ x ∧ x ≤ 10) : okM (setI S 4 x) := ⟨h.1, ⟨okM_i1 (S := S) h, okM_i2 (S := S) h, okM_i3 (S := S) h, hf, okM_i5 (S := S) h⟩⟩
theorem okM_j5 {S : gS} {x : Int} (h : okM S) (hf : 0 ≤ x ∧ x ≤ 3) : okM (setI S 5 x) := ⟨h.1, ⟨okM_i1 (S := S) h, okM_i2 (S := S) h, okM_i3 (S := S) h, okM_i4 (S := S) h, hf⟩⟩
theorem okM_j0 {S : gS} {x : Int} (h : okM S) : okM (setI S 0 x) := h
