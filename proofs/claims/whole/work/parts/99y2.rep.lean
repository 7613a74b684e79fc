set_option maxRecDepth 100000 in
theorem rB_12 {G : zG} {b : Nat} {H : Heap} (hP : va_P G.2.2.1 classes (bw (b + 155) (LX12 G (b + 155))) H) : ∀ i, i < 1 → va_at (gB G b).2.2.1 classes ((gB G b).2.2.2.2 12 i, zcell (gB G b) mM0 12 i) H := by
  intro i hi
  rcases (show i = 0 by omega) with rfl
  exact hP 0 (b + 155 + 0, zcell (gB G b) mM0 12 0) (bw_some rfl)
set_option maxRecDepth 100000 in
theorem rB_51 {G : zG} {b : Nat} {H : Heap} (hP : va_P G.2.2.1 classes (bw (b + 155) (LX12 G (b + 155))) H) : ∀ i, i < 1 → va_at (gB G b).2.2.1 classes ((gB G b).2.2.2.2 51 i, zcell (gB G b) mM0 51 i) H := by
  intro i hi
  rcases (show i = 0 by omega) with rfl
  exact hP 1 (b + 155 + 1, zcell (gB G b) mM0 51 0) (bw_some rfl)
set_option maxRecDepth 100000 in
theorem rB_52 {G : zG} {b : Nat} {H : Heap} (hP : va_P G.2.2.1 classes (bw (b + 155) (LX12 G (b + 155))) H) : ∀ i, i < 1 → va_at (gB G b).2.2.1 classes ((gB G b).2.2.2.2 52 i, zcell (gB G b) mM0 52 i) H := by
  intro i hi
  rcases (show i = 0 by omega) with rfl
  exact hP 2 (b + 155 + 2, zcell (gB G b) mM0 52 0) (bw_some rfl)
set_option maxRecDepth 100000 in
theorem rB_53 {G : zG} {b : Nat} {H : Heap} (hP : va_P G.2.2.1 classes (bw (b + 155) (LX12 G (b + 155))) H) : ∀ i, i < 1 → va_at (gB G b).2.2.1 classes ((gB G b).2.2.2.2 53 i, zcell (gB G b) mM0 53 i) H := by
  intro i hi
  rcases (show i = 0 by omega) with rfl
  exact hP 3 (b + 155 + 3, zcell (gB G b) mM0 53 0) (bw_some rfl)
set_option maxRecDepth 100000 in
theorem rB_54 {G : zG} {b : Nat} {H : Heap} (hP : va_P G.2.2.1 classes (bw (b + 155) (LX12 G (b + 155))) H) : ∀ i, i < 1 → va_at (gB G b).2.2.1 classes ((gB G b).2.2.2.2 54 i, zcell (gB G b) mM0 54 i) H := by
  intro i hi
  rcases (show i = 0 by omega) with rfl
  exact hP 4 (b + 155 + 4, zcell (gB G b) mM0 54 0) (bw_some rfl)
set_option maxRecDepth 100000 in
theorem rB_55 {G : zG} {b : Nat} {H : Heap} (hP : va_P G.2.2.1 classes (bw (b + 155) (LX12 G (b + 155))) H) : ∀ i, i < 1 → va_at (gB G b).2.2.1 classes ((gB G b).2.2.2.2 55 i, zcell (gB G b) mM0 55 i) H := by
  intro i hi
  rcases (show i = 0 by omega) with rfl
  exact hP 5 (b + 155 + 5, zcell (gB G b) mM0 55 0) (bw_some rfl)
set_option maxRecDepth 100000 in
theorem rB_56 {G : zG} {b : Nat} {H : Heap} (hP : va_P G.2.2.1 classes (bw (b + 155) (LX12 G (b + 155))) H) : ∀ i, i < 1 → va_at (gB G b).2.2.1 classes ((gB G b).2.2.2.2 56 i, zcell (gB G b) mM0 56 i) H := by
  intro i hi
  rcases (show i = 0 by omega) with rfl
  exact hP 6 (b + 155 + 6, zcell (gB G b) mM0 56 0) (bw_some rfl)
set_option maxRecDepth 100000 in
theorem rB_57 {G : zG} {b : Nat} {H : Heap} (hP : va_P G.2.2.1 classes (bw (b + 155) (LX12 G (b + 155))) H) : ∀ i, i < 1 → va_at (gB G b).2.2.1 classes ((gB G b).2.2.2.2 57 i, zcell (gB G b) mM0 57 i) H := by
  intro i hi
  rcases (show i = 0 by omega) with rfl
  exact hP 7 (b + 155 + 7, zcell (gB G b) mM0 57 0) (bw_some rfl)
set_option maxRecDepth 100000 in
theorem rB_58 {G : zG} {b : Nat} {H : Heap} (hP : va_P G.2.2.1 classes (bw (b + 155) (LX12 G (b + 155))) H) : ∀ i, i < 1 → va_at (gB G b).2.2.1 classes ((gB G b).2.2.2.2 58 i, zcell (gB G b) mM0 58 i) H := by
  intro i hi
  rcases (show i = 0 by omega) with rfl
  exact hP 8 (b + 155 + 8, zcell (gB G b) mM0 58 0) (bw_some rfl)
set_option maxRecDepth 100000 in
theorem rB_59 {G : zG} {b : Nat} {H : Heap} (hP : va_P G.2.2.1 classes (bw (b + 155) (LX12 G (b + 155))) H) : ∀ i, i < 1 → va_at (gB G b).2.2.1 classes ((gB G b).2.2.2.2 59 i, zcell (gB G b) mM0 59 i) H := by
  intro i hi
  rcases (show i = 0 by omega) with rfl
  exact hP 9 (b + 155 + 9, zcell (gB G b) mM0 59 0) (bw_some rfl)
set_option maxRecDepth 100000 in
theorem rB_60 {G : zG} {b : Nat} {H : Heap} (hP : va_P G.2.2.1 classes (bw (b + 155) (LX12 G (b + 155))) H) : ∀ i, i < 1 → va_at (gB G b).2.2.1 classes ((gB G b).2.2.2.2 60 i, zcell (gB G b) mM0 60 i) H := by
  intro i hi
  rcases (show i = 0 by omega) with rfl
  exact hP 10 (b + 155 + 10, zcell (gB G b) mM0 60 0) (bw_some rfl)
set_option maxRecDepth 100000 in
theorem rB_61 {G : zG} {b : Nat} {H : Heap} (hP : va_P G.2.2.1 classes (bw (b + 155) (LX12 G (b + 155))) H) : ∀ i, i < 1 → va_at (gB G b).2.2.1 classes ((gB G b).2.2.2.2 61 i, zcell (gB G b) mM0 61 i) H := by
  intro i hi
  rcases (show i = 0 by omega) with rfl
  exact hP 11 (b + 155 + 11, zcell (gB G b) mM0 61 0) (bw_some rfl)
set_option maxRecDepth 100000 in
theorem rB_62 {G : zG} {b : Nat} {H : Heap} (hP : va_P G.2.2.1 classes (bw (b + 155) (LX12 G (b + 155))) H) : ∀ i, i < 1 → va_at (gB G b).2.2.1 classes ((gB G b).2.2.2.2 62 i, zcell (gB G b) mM0 62 i) H := by
  intro i hi
  rcases (show i = 0 by omega) with rfl
  exact hP 12 (b + 155 + 12, zcell (gB G b) mM0 62 0) (bw_some rfl)
set_option maxRecDepth 100000 in
theorem rB_63 {G : zG} {b : Nat} {H : Heap} (hP : va_P G.2.2.1 classes (bw (b + 155) (LX12 G (b + 155))) H) : ∀ i, i < 1 → va_at (gB G b).2.2.1 classes ((gB G b).2.2.2.2 63 i, zcell (gB G b) mM0 63 i) H := by
  intro i hi
  rcases (show i = 0 by omega) with rfl
  exact hP 13 (b + 155 + 13, zcell (gB G b) mM0 63 0) (bw_some rfl)
set_option maxRecDepth 100000 in
theorem rB_64 {G : zG} {b : Nat} {H : Heap} (hP : va_P G.2.2.1 classes (bw (b + 155) (LX12 G (b + 155))) H) : ∀ i, i < 1 → va_at (gB G b).2.2.1 classes ((gB G b).2.2.2.2 64 i, zcell (gB G b) mM0 64 i) H := by
  intro i hi
  rcases (show i = 0 by omega) with rfl
  exact hP 14 (b + 155 + 14, zcell (gB G b) mM0 64 0) (bw_some rfl)
set_option maxRecDepth 100000 in
theorem rB_65 {G : zG} {b : Nat} {H : Heap} (hP : va_P G.2.2.1 classes (bw (b + 155) (LX12 G (b + 155))) H) : ∀ i, i < 1 → va_at (gB G b).2.2.1 classes ((gB G b).2.2.2.2 65 i, zcell (gB G b) mM0 65 i) H := by
  intro i hi
  rcases (show i = 0 by omega) with rfl
  exact hP 15 (b + 155 + 15, zcell (gB G b) mM0 65 0) (bw_some rfl)
set_option maxRecDepth 100000 in
theorem rB_66 {G : zG} {b : Nat} {H : Heap} (hP : va_P G.2.2.1 classes (bw (b + 155) (LX12 G (b + 155))) H) : ∀ i, i < 1 → va_at (gB G b).2.2.1 classes ((gB G b).2.2.2.2 66 i, zcell (gB G b) mM0 66 i) H := by
  intro i hi
  rcases (show i = 0 by omega) with rfl
  exact hP 16 (b + 155 + 16, zcell (gB G b) mM0 66 0) (bw_some rfl)
set_option maxRecDepth 100000 in
theorem rB_67 {G : zG} {b : Nat} {H : Heap} (hP : va_P G.2.2.1 classes (bw (b + 155) (LX12 G (b + 155))) H) : ∀ i, i < 1 → va_at (gB G b).2.2.1 classes ((gB G b).2.2.2.2 67 i, zcell (gB G b) mM0 67 i) H := by
  intro i hi
  rcases (show i = 0 by omega) with rfl
  exact hP 17 (b + 155 + 17, zcell (gB G b) mM0 67 0) (bw_some rfl)
set_option maxRecDepth 100000 in
theorem rB_68 {G : zG} {b : Nat} {H : Heap} (hP : va_P G.2.2.1 classes (bw (b + 155) (LX12 G (b + 155))) H) : ∀ i, i < 1 → va_at (gB G b).2.2.1 classes ((gB G b).2.2.2.2 68 i, zcell (gB G b) mM0 68 i) H := by
  intro i hi
  rcases (show i = 0 by omega) with rfl
  exact hP 18 (b + 155 + 18, zcell (gB G b) mM0 68 0) (bw_some rfl)
set_option maxRecDepth 100000 in
theorem rB_69 {G : zG} {b : Nat} {H : Heap} (hP : va_P G.2.2.1 classes (bw (b + 155) (LX12 G (b + 155))) H) : ∀ i, i < 1 → va_at (gB G b).2.2.1 classes ((gB G b).2.2.2.2 69 i, zcell (gB G b) mM0 69 i) H := by
  intro i hi
  rcases (show i = 0 by omega) with rfl
  exact hP 19 (b + 155 + 19, zcell (gB G b) mM0 69 0) (bw_some rfl)
set_option maxRecDepth 100000 in
theorem rB_70 {G : zG} {b : Nat} {H : Heap} (hP : va_P G.2.2.1 classes (bw (b + 155) (LX12 G (b + 155))) H) : ∀ i, i < 1 → va_at (gB G b).2.2.1 classes ((gB G b).2.2.2.2 70 i, zcell (gB G b) mM0 70 i) H := by
  intro i hi
  rcases (show i = 0 by omega) with rfl
  exact hP 20 (b + 155 + 20, zcell (gB G b) mM0 70 0) (bw_some rfl)
set_option maxRecDepth 100000 in
theorem rB_71 {G : zG} {b : Nat} {H : Heap} (hP : va_P G.2.2.1 classes (bw (b + 155) (LX12 G (b + 155))) H) : ∀ i, i < 1 → va_at (gB G b).2.2.1 classes ((gB G b).2.2.2.2 71 i, zcell (gB G b) mM0 71 i) H := by
  intro i hi
  rcases (show i = 0 by omega) with rfl
  exact hP 21 (b + 155 + 21, zcell (gB G b) mM0 71 0) (bw_some rfl)
set_option maxRecDepth 100000 in
theorem rB_72 {G : zG} {b : Nat} {H : Heap} (hP : va_P G.2.2.1 classes (bw (b + 155) (LX12 G (b + 155))) H) : ∀ i, i < 1 → va_at (gB G b).2.2.1 classes ((gB G b).2.2.2.2 72 i, zcell (gB G b) mM0 72 i) H := by
  intro i hi
  rcases (show i = 0 by omega) with rfl
  exact hP 22 (b + 155 + 22, zcell (gB G b) mM0 72 0) (bw_some rfl)
set_option maxRecDepth 100000 in
theorem rB_73 {G : zG} {b : Nat} {H : Heap} (hP : va_P G.2.2.1 classes (bw (b + 155) (LX12 G (b + 155))) H) : ∀ i, i < 1 → va_at (gB G b).2.2.1 classes ((gB G b).2.2.2.2 73 i, zcell (gB G b) mM0 73 i) H := by
  intro i hi
  rcases (show i = 0 by omega) with rfl
  exact hP 23 (b + 155 + 23, zcell (gB G b) mM0 73 0) (bw_some rfl)
set_option maxRecDepth 100000 in
theorem rB_74 {G : zG} {b : Nat} {H : Heap} (hP : va_P G.2.2.1 classes (bw (b + 155) (LX12 G (b + 155))) H) : ∀ i, i < 1 → va_at (gB G b).2.2.1 classes ((gB G b).2.2.2.2 74 i, zcell (gB G b) mM0 74 i) H := by
  intro i hi
  rcases (show i = 0 by omega) with rfl
  exact hP 24 (b + 155 + 24, zcell (gB G b) mM0 74 0) (bw_some rfl)
set_option maxRecDepth 100000 in
theorem rB_75 {G : zG} {b : Nat} {H : Heap} (hP : va_P G.2.2.1 classes (bw (b + 155) (LX12 G (b + 155))) H) : ∀ i, i < 1 → va_at (gB G b).2.2.1 classes ((gB G b).2.2.2.2 75 i, zcell (gB G b) mM0 75 i) H := by
  intro i hi
  rcases (show i = 0 by omega) with rfl
  exact hP 25 (b + 155 + 25, zcell (gB G b) mM0 75 0) (bw_some rfl)
set_option maxRecDepth 100000 in
theorem rB_76 {G : zG} {b : Nat} {H : Heap} (hP : va_P G.2.2.1 classes (bw (b + 155) (LX12 G (b + 155))) H) : ∀ i, i < 1 → va_at (gB G b).2.2.1 classes ((gB G b).2.2.2.2 76 i, zcell (gB G b) mM0 76 i) H := by
  intro i hi
  rcases (show i = 0 by omega) with rfl
  exact hP 26 (b + 155 + 26, zcell (gB G b) mM0 76 0) (bw_some rfl)
set_option maxRecDepth 100000 in
theorem rB_77 {G : zG} {b : Nat} {H : Heap} (hP : va_P G.2.2.1 classes (bw (b + 155) (LX12 G (b + 155))) H) : ∀ i, i < 1 → va_at (gB G b).2.2.1 classes ((gB G b).2.2.2.2 77 i, zcell (gB G b) mM0 77 i) H := by
  intro i hi
  rcases (show i = 0 by omega) with rfl
  exact hP 27 (b + 155 + 27, zcell (gB G b) mM0 77 0) (bw_some rfl)
set_option maxRecDepth 100000 in
theorem rB_78 {G : zG} {b : Nat} {H : Heap} (hP : va_P G.2.2.1 classes (bw (b + 155) (LX12 G (b + 155))) H) : ∀ i, i < 1 → va_at (gB G b).2.2.1 classes ((gB G b).2.2.2.2 78 i, zcell (gB G b) mM0 78 i) H := by
  intro i hi
  rcases (show i = 0 by omega) with rfl
  exact hP 28 (b + 155 + 28, zcell (gB G b) mM0 78 0) (bw_some rfl)
set_option maxRecDepth 100000 in
theorem rB_79 {G : zG} {b : Nat} {H : Heap} (hP : va_P G.2.2.1 classes (bw (b + 155) (LX12 G (b + 155))) H) : ∀ i, i < 1 → va_at (gB G b).2.2.1 classes ((gB G b).2.2.2.2 79 i, zcell (gB G b) mM0 79 i) H := by
  intro i hi
  rcases (show i = 0 by omega) with rfl
  exact hP 29 (b + 155 + 29, zcell (gB G b) mM0 79 0) (bw_some rfl)
set_option maxRecDepth 100000 in
theorem rB_80 {G : zG} {b : Nat} {H : Heap} (hP : va_P G.2.2.1 classes (bw (b + 155) (LX12 G (b + 155))) H) : ∀ i, i < 1 → va_at (gB G b).2.2.1 classes ((gB G b).2.2.2.2 80 i, zcell (gB G b) mM0 80 i) H := by
  intro i hi
  rcases (show i = 0 by omega) with rfl
  exact hP 30 (b + 155 + 30, zcell (gB G b) mM0 80 0) (bw_some rfl)
set_option maxRecDepth 100000 in
theorem rB_81 {G : zG} {b : Nat} {H : Heap} (hP : va_P G.2.2.1 classes (bw (b + 155) (LX12 G (b + 155))) H) : ∀ i, i < 1 → va_at (gB G b).2.2.1 classes ((gB G b).2.2.2.2 81 i, zcell (gB G b) mM0 81 i) H := by
  intro i hi
  rcases (show i = 0 by omega) with rfl
  exact hP 31 (b + 155 + 31, zcell (gB G b) mM0 81 0) (bw_some rfl)
set_option maxRecDepth 100000 in
theorem rB_82 {G : zG} {b : Nat} {H : Heap} (hP : va_P G.2.2.1 classes (bw (b + 155) (LX12 G (b + 155))) H) : ∀ i, i < 1 → va_at (gB G b).2.2.1 classes ((gB G b).2.2.2.2 82 i, zcell (gB G b) mM0 82 i) H := by
  intro i hi
  rcases (show i = 0 by omega) with rfl
  exact hP 32 (b + 155 + 32, zcell (gB G b) mM0 82 0) (bw_some rfl)
set_option maxRecDepth 100000 in
theorem rB_83 {G : zG} {b : Nat} {H : Heap} (hP : va_P G.2.2.1 classes (bw (b + 155) (LX12 G (b + 155))) H) : ∀ i, i < 1 → va_at (gB G b).2.2.1 classes ((gB G b).2.2.2.2 83 i, zcell (gB G b) mM0 83 i) H := by
  intro i hi
  rcases (show i = 0 by omega) with rfl
  exact hP 33 (b + 155 + 33, zcell (gB G b) mM0 83 0) (bw_some rfl)
set_option maxRecDepth 100000 in
theorem rB_84 {G : zG} {b : Nat} {H : Heap} (hP : va_P G.2.2.1 classes (bw (b + 155) (LX12 G (b + 155))) H) : ∀ i, i < 1 → va_at (gB G b).2.2.1 classes ((gB G b).2.2.2.2 84 i, zcell (gB G b) mM0 84 i) H := by
  intro i hi
  rcases (show i = 0 by omega) with rfl
  exact hP 34 (b + 155 + 34, zcell (gB G b) mM0 84 0) (bw_some rfl)
set_option maxRecDepth 100000 in
theorem rB_85 {G : zG} {b : Nat} {H : Heap} (hP : va_P G.2.2.1 classes (bw (b + 155) (LX12 G (b + 155))) H) : ∀ i, i < 1 → va_at (gB G b).2.2.1 classes ((gB G b).2.2.2.2 85 i, zcell (gB G b) mM0 85 i) H := by
  intro i hi
  rcases (show i = 0 by omega) with rfl
  exact hP 35 (b + 155 + 35, zcell (gB G b) mM0 85 0) (bw_some rfl)
set_option maxRecDepth 100000 in
theorem rB_86 {G : zG} {b : Nat} {H : Heap} (hP : va_P G.2.2.1 classes (bw (b + 155) (LX12 G (b + 155))) H) : ∀ i, i < 1 → va_at (gB G b).2.2.1 classes ((gB G b).2.2.2.2 86 i, zcell (gB G b) mM0 86 i) H := by
  intro i hi
  rcases (show i = 0 by omega) with rfl
  exact hP 36 (b + 155 + 36, zcell (gB G b) mM0 86 0) (bw_some rfl)
set_option maxRecDepth 100000 in
theorem rB_87 {G : zG} {b : Nat} {H : Heap} (hP : va_P G.2.2.1 classes (bw (b + 155) (LX12 G (b + 155))) H) : ∀ i, i < 1 → va_at (gB G b).2.2.1 classes ((gB G b).2.2.2.2 87 i, zcell (gB G b) mM0 87 i) H := by
  intro i hi
  rcases (show i = 0 by omega) with rfl
  exact hP 37 (b + 155 + 37, zcell (gB G b) mM0 87 0) (bw_some rfl)
set_option maxRecDepth 100000 in
theorem rB_88 {G : zG} {b : Nat} {H : Heap} (hP : va_P G.2.2.1 classes (bw (b + 155) (LX12 G (b + 155))) H) : ∀ i, i < 1 → va_at (gB G b).2.2.1 classes ((gB G b).2.2.2.2 88 i, zcell (gB G b) mM0 88 i) H := by
  intro i hi
  rcases (show i = 0 by omega) with rfl
  exact hP 38 (b + 155 + 38, zcell (gB G b) mM0 88 0) (bw_some rfl)
set_option maxRecDepth 100000 in
theorem rB_89 {G : zG} {b : Nat} {H : Heap} (hP : va_P G.2.2.1 classes (bw (b + 155) (LX12 G (b + 155))) H) : ∀ i, i < 1 → va_at (gB G b).2.2.1 classes ((gB G b).2.2.2.2 89 i, zcell (gB G b) mM0 89 i) H := by
  intro i hi
  rcases (show i = 0 by omega) with rfl
  exact hP 39 (b + 155 + 39, zcell (gB G b) mM0 89 0) (bw_some rfl)
set_option maxRecDepth 100000 in
theorem rB_90 {G : zG} {b : Nat} {H : Heap} (hP : va_P G.2.2.1 classes (bw (b + 155) (LX12 G (b + 155))) H) : ∀ i, i < 1 → va_at (gB G b).2.2.1 classes ((gB G b).2.2.2.2 90 i, zcell (gB G b) mM0 90 i) H := by
  intro i hi
  rcases (show i = 0 by omega) with rfl
  exact hP 40 (b + 155 + 40, zcell (gB G b) mM0 90 0) (bw_some rfl)
set_option maxRecDepth 100000 in
theorem rB_91 {G : zG} {b : Nat} {H : Heap} (hP : va_P G.2.2.1 classes (bw (b + 155) (LX12 G (b + 155))) H) : ∀ i, i < 1 → va_at (gB G b).2.2.1 classes ((gB G b).2.2.2.2 91 i, zcell (gB G b) mM0 91 i) H := by
  intro i hi
  rcases (show i = 0 by omega) with rfl
  exact hP 41 (b + 155 + 41, zcell (gB G b) mM0 91 0) (bw_some rfl)
set_option maxRecDepth 100000 in
theorem rB_92 {G : zG} {b : Nat} {H : Heap} (hP : va_P G.2.2.1 classes (bw (b + 155) (LX12 G (b + 155))) H) : ∀ i, i < 1 → va_at (gB G b).2.2.1 classes ((gB G b).2.2.2.2 92 i, zcell (gB G b) mM0 92 i) H := by
  intro i hi
  rcases (show i = 0 by omega) with rfl
  exact hP 42 (b + 155 + 42, zcell (gB G b) mM0 92 0) (bw_some rfl)
set_option maxRecDepth 100000 in
theorem rB_93 {G : zG} {b : Nat} {H : Heap} (hP : va_P G.2.2.1 classes (bw (b + 155) (LX12 G (b + 155))) H) : ∀ i, i < 1 → va_at (gB G b).2.2.1 classes ((gB G b).2.2.2.2 93 i, zcell (gB G b) mM0 93 i) H := by
  intro i hi
  rcases (show i = 0 by omega) with rfl
  exact hP 43 (b + 155 + 43, zcell (gB G b) mM0 93 0) (bw_some rfl)
theorem cnB_lt {k i : Nat} (h : i < cnB k) : k = 12 ∨ (51 ≤ k ∧ k ≤ 93) := by
  unfold cnB at h
  split at h
  · omega
  · omega
theorem rB_all {G : zG} {b : Nat} {H : Heap} (hP : va_P G.2.2.1 classes (bw (b + 155) (LX12 G (b + 155))) H) : yRep cnB (gB G b) mM0 H := by
  intro k i hi
  have hk := cnB_lt hi
  rcases (show k = 12 ∨ k = 51 ∨ k = 52 ∨ k = 53 ∨ k = 54 ∨ k = 55 ∨ k = 56 ∨ k = 57 ∨ k = 58 ∨ k = 59 ∨ k = 60 ∨ k = 61 ∨ k = 62 ∨ k = 63 ∨ k = 64 ∨ k = 65 ∨ k = 66 ∨ k = 67 ∨ k = 68 ∨ k = 69 ∨ k = 70 ∨ k = 71 ∨ k = 72 ∨ k = 73 ∨ k = 74 ∨ k = 75 ∨ k = 76 ∨ k = 77 ∨ k = 78 ∨ k = 79 ∨ k = 80 ∨ k = 81 ∨ k = 82 ∨ k = 83 ∨ k = 84 ∨ k = 85 ∨ k = 86 ∨ k = 87 ∨ k = 88 ∨ k = 89 ∨ k = 90 ∨ k = 91 ∨ k = 92 ∨ k = 93 by omega) with rfl | rfl | rfl | rfl | rfl | rfl | rfl | rfl | rfl | rfl | rfl | rfl | rfl | rfl | rfl | rfl | rfl | rfl | rfl | rfl | rfl | rfl | rfl | rfl | rfl | rfl | rfl | rfl | rfl | rfl | rfl | rfl | rfl | rfl | rfl | rfl | rfl | rfl | rfl | rfl | rfl | rfl | rfl | rfl
  · exact rB_12 hP i hi
  · exact rB_51 hP i hi
  · exact rB_52 hP i hi
  · exact rB_53 hP i hi
  · exact rB_54 hP i hi
  · exact rB_55 hP i hi
  · exact rB_56 hP i hi
  · exact rB_57 hP i hi
  · exact rB_58 hP i hi
  · exact rB_59 hP i hi
  · exact rB_60 hP i hi
  · exact rB_61 hP i hi
  · exact rB_62 hP i hi
  · exact rB_63 hP i hi
  · exact rB_64 hP i hi
  · exact rB_65 hP i hi
  · exact rB_66 hP i hi
  · exact rB_67 hP i hi
  · exact rB_68 hP i hi
  · exact rB_69 hP i hi
  · exact rB_70 hP i hi
  · exact rB_71 hP i hi
  · exact rB_72 hP i hi
  · exact rB_73 hP i hi
  · exact rB_74 hP i hi
  · exact rB_75 hP i hi
  · exact rB_76 hP i hi
  · exact rB_77 hP i hi
  · exact rB_78 hP i hi
  · exact rB_79 hP i hi
  · exact rB_80 hP i hi
  · exact rB_81 hP i hi
  · exact rB_82 hP i hi
  · exact rB_83 hP i hi
  · exact rB_84 hP i hi
  · exact rB_85 hP i hi
  · exact rB_86 hP i hi
  · exact rB_87 hP i hi
  · exact rB_88 hP i hi
  · exact rB_89 hP i hi
  · exact rB_90 hP i hi
  · exact rB_91 hP i hi
  · exact rB_92 hP i hi
  · exact rB_93 hP i hi
