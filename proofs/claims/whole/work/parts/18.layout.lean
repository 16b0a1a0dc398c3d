/-! ===== the layout: shapes and references of all that the law makes ===== -/
def zKl : List (Nat × Nat) := [(99, 0), (99, 0), (11, 0), (8, 0), (22, 400), (5, 0), (20, 5), (1, 0), (27, 6), (20, 3), (20, 3), (20, 3), (20, 3), (20, 3), (20, 3), (20, 3), (0, 0), (20, 10), (20, 10), (20, 10), (20, 10), (0, 0), (20, 10), (20, 10), (20, 10), (20, 10), (0, 0), (20, 10), (20, 10), (20, 10), (20, 10), (2, 0), (20, 37), (21, 37), (6, 0), (21, 10), (4, 0), (23, 256), (21, 256), (10, 0), (24, 6), (25, 8), (26, 6), (20, 3), (20, 5), (7, 0), (20, 3), (7, 0), (20, 3), (7, 0), (20, 3), (7, 0), (20, 3), (7, 0), (20, 3), (7, 0), (20, 3), (3, 0), (20, 3), (3, 0), (20, 3), (3, 0), (20, 3), (3, 0), (20, 3), (3, 0), (20, 3), (3, 0), (20, 3), (3, 0), (20, 3), (3, 0), (20, 3), (9, 0), (9, 0), (9, 0), (9, 0), (9, 0), (9, 0), (10, 0), (24, 6), (25, 8), (26, 6), (20, 3), (20, 5), (7, 0), (20, 3), (7, 0), (20, 3), (7, 0), (20, 3), (7, 0), (20, 3), (7, 0), (20, 3), (7, 0), (20, 3), (3, 0), (20, 3), (3, 0), (20, 3), (3, 0), (20, 3), (3, 0), (20, 3), (3, 0), (20, 3), (3, 0), (20, 3), (3, 0), (20, 3), (3, 0), (20, 3), (9, 0), (9, 0), (9, 0), (9, 0), (9, 0), (9, 0), (12, 0), (20, 400), (20, 2), (20, 12), (20, 12), (20, 2), (20, 16), (20, 16), (20, 16), (20, 16), (20, 16), (20, 16), (20, 16), (20, 16), (20, 2), (20, 48), (20, 2), (20, 36), (20, 2), (20, 12), (20, 12), (20, 12), (20, 6), (20, 10), (20, 3), (20, 30), (20, 30), (20, 30), (20, 30), (20, 5), (20, 37), (21, 37), (21, 10), (21, 256), (20, 256)]
def zKC (a : Nat) : Nat × Nat := match zKl[a]? with
  | some q => q
  | none => (99, 0)
def zRl : List (List Nat) := [[], [], [4, 6, 8, 17, 22, 27, 32, 35, 37, 40, 80], [5], [], [7], [], [9, 16], [10, 11, 12, 13, 14, 15], [], [], [], [], [], [], [], [18, 19, 20, 21], [], [], [], [], [23, 24, 25, 26], [], [], [], [], [28, 29, 30, 31], [], [], [], [], [33, 34], [], [], [36], [], [38, 39], [], [], [41, 42, 43, 44, 45], [46, 48, 50, 52, 54, 56], [58, 60, 62, 64, 66, 68, 70, 72], [74, 75, 76, 77, 78, 79], [], [], [47], [], [49], [], [51], [], [53], [], [55], [], [57], [], [59], [], [61], [], [63], [], [65], [], [67], [], [69], [], [71], [], [73], [], [], [], [], [], [], [], [81, 82, 83, 84, 85], [86, 88, 90, 92, 94, 96], [98, 100, 102, 104, 106, 108, 110, 112], [114, 115, 116, 117, 118, 119], [], [], [87], [], [89], [], [91], [], [93], [], [95], [], [97], [], [99], [], [101], [], [103], [], [105], [], [107], [], [109], [], [111], [], [113], [], [], [], [], [], [], [], [0, 121, 122, 123, 124, 125, 126, 127, 128, 129, 130, 131, 132, 133, 134, 135, 136, 137, 138, 139, 140, 141, 142, 143, 144, 145, 146, 147, 148, 0, 0, 149, 0, 150, 151, 152, 153, 154], [], [], [], [], [], [], [], [], [], [], [], [], [], [], [], [], [], [], [], [], [], [], [], [], [], [], [], [], [], [], [], [], [], []]
def zR0 (a k : Nat) : Nat := match zRl[a]? with
  | some q => q.getD k 0
  | none => 0
def zKa (K : ZKh) : Prop := (∀ a, 2 ≤ a → a < 119 → K a = zKC a) ∧ K 1 = (30, 5)
def zKb (K : ZKh) : Prop := ∀ a, 119 ≤ a → a < 154 → K a = zKC a
def zRa (R : ZMr) : Prop := (∀ a, 3 ≤ a → a < 119 → ∀ k, R a k = zR0 a k) ∧ ∀ k, k < 9 → R 2 k = zR0 2 k
def zRb (R : ZMr) : Prop := ∀ k, R 119 k = zR0 119 k
def zisW (w : Nat) : Prop := w = 39 ∨ w = 79
theorem zk2 {K : ZKh} (hK : zKa K) : K 2 = (11, 0) := hK.1 2 (by decide) (by decide)
theorem zj2 {K : ZKh} (hK : zKa K) : (K 2).1 = 11 := congrArg Prod.fst (zk2 hK)
theorem zr2_0 {R : ZMr} (hR : zRa R) : R 2 0 = 3 + 1 := hR.2 0 (by decide)
theorem zr2_1 {R : ZMr} (hR : zRa R) : R 2 1 = 5 + 1 := hR.2 1 (by decide)
theorem zr2_2 {R : ZMr} (hR : zRa R) : R 2 2 = 7 + 1 := hR.2 2 (by decide)
theorem zr2_3 {R : ZMr} (hR : zRa R) : R 2 3 = 16 + 1 := hR.2 3 (by decide)
theorem zr2_4 {R : ZMr} (hR : zRa R) : R 2 4 = 21 + 1 := hR.2 4 (by decide)
theorem zr2_5 {R : ZMr} (hR : zRa R) : R 2 5 = 26 + 1 := hR.2 5 (by decide)
theorem zr2_6 {R : ZMr} (hR : zRa R) : R 2 6 = 31 + 1 := hR.2 6 (by decide)
theorem zr2_7 {R : ZMr} (hR : zRa R) : R 2 7 = 34 + 1 := hR.2 7 (by decide)
theorem zr2_8 {R : ZMr} (hR : zRa R) : R 2 8 = 36 + 1 := hR.2 8 (by decide)
theorem zk3 {K : ZKh} (hK : zKa K) : K 3 = (8, 0) := hK.1 3 (by decide) (by decide)
theorem zj3 {K : ZKh} (hK : zKa K) : (K 3).1 = 8 := congrArg Prod.fst (zk3 hK)
theorem zr3_0 {R : ZMr} (hR : zRa R) : R 3 0 = 4 + 1 := hR.1 3 (by decide) (by decide) 0
theorem zk4 {K : ZKh} (hK : zKa K) : K 4 = (22, 400) := hK.1 4 (by decide) (by decide)
theorem zk5 {K : ZKh} (hK : zKa K) : K 5 = (5, 0) := hK.1 5 (by decide) (by decide)
theorem zj5 {K : ZKh} (hK : zKa K) : (K 5).1 = 5 := congrArg Prod.fst (zk5 hK)
theorem zr5_0 {R : ZMr} (hR : zRa R) : R 5 0 = 6 + 1 := hR.1 5 (by decide) (by decide) 0
theorem zk6 {K : ZKh} (hK : zKa K) : K 6 = (20, 5) := hK.1 6 (by decide) (by decide)
theorem zk7 {K : ZKh} (hK : zKa K) : K 7 = (1, 0) := hK.1 7 (by decide) (by decide)
theorem zj7 {K : ZKh} (hK : zKa K) : (K 7).1 = 1 := congrArg Prod.fst (zk7 hK)
theorem zr7_0 {R : ZMr} (hR : zRa R) : R 7 0 = 8 + 1 := hR.1 7 (by decide) (by decide) 0
theorem zr7_1 {R : ZMr} (hR : zRa R) : R 7 1 = 15 + 1 := hR.1 7 (by decide) (by decide) 1
theorem zk8 {K : ZKh} (hK : zKa K) : K 8 = (27, 6) := hK.1 8 (by decide) (by decide)
theorem zk9 {K : ZKh} (hK : zKa K) : K 9 = (20, 3) := hK.1 9 (by decide) (by decide)
theorem zk10 {K : ZKh} (hK : zKa K) : K 10 = (20, 3) := hK.1 10 (by decide) (by decide)
theorem zk11 {K : ZKh} (hK : zKa K) : K 11 = (20, 3) := hK.1 11 (by decide) (by decide)
theorem zk12 {K : ZKh} (hK : zKa K) : K 12 = (20, 3) := hK.1 12 (by decide) (by decide)
theorem zk13 {K : ZKh} (hK : zKa K) : K 13 = (20, 3) := hK.1 13 (by decide) (by decide)
theorem zk14 {K : ZKh} (hK : zKa K) : K 14 = (20, 3) := hK.1 14 (by decide) (by decide)
theorem zk15 {K : ZKh} (hK : zKa K) : K 15 = (20, 3) := hK.1 15 (by decide) (by decide)
theorem zk16 {K : ZKh} (hK : zKa K) : K 16 = (0, 0) := hK.1 16 (by decide) (by decide)
theorem zj16 {K : ZKh} (hK : zKa K) : (K 16).1 = 0 := congrArg Prod.fst (zk16 hK)
theorem zr16_0 {R : ZMr} (hR : zRa R) : R 16 0 = 17 + 1 := hR.1 16 (by decide) (by decide) 0
theorem zr16_1 {R : ZMr} (hR : zRa R) : R 16 1 = 18 + 1 := hR.1 16 (by decide) (by decide) 1
theorem zr16_2 {R : ZMr} (hR : zRa R) : R 16 2 = 19 + 1 := hR.1 16 (by decide) (by decide) 2
theorem zr16_3 {R : ZMr} (hR : zRa R) : R 16 3 = 20 + 1 := hR.1 16 (by decide) (by decide) 3
theorem zk17 {K : ZKh} (hK : zKa K) : K 17 = (20, 10) := hK.1 17 (by decide) (by decide)
theorem zk18 {K : ZKh} (hK : zKa K) : K 18 = (20, 10) := hK.1 18 (by decide) (by decide)
theorem zk19 {K : ZKh} (hK : zKa K) : K 19 = (20, 10) := hK.1 19 (by decide) (by decide)
theorem zk20 {K : ZKh} (hK : zKa K) : K 20 = (20, 10) := hK.1 20 (by decide) (by decide)
theorem zk21 {K : ZKh} (hK : zKa K) : K 21 = (0, 0) := hK.1 21 (by decide) (by decide)
theorem zj21 {K : ZKh} (hK : zKa K) : (K 21).1 = 0 := congrArg Prod.fst (zk21 hK)
theorem zr21_0 {R : ZMr} (hR : zRa R) : R 21 0 = 22 + 1 := hR.1 21 (by decide) (by decide) 0
theorem zr21_1 {R : ZMr} (hR : zRa R) : R 21 1 = 23 + 1 := hR.1 21 (by decide) (by decide) 1
theorem zr21_2 {R : ZMr} (hR : zRa R) : R 21 2 = 24 + 1 := hR.1 21 (by decide) (by decide) 2
theorem zr21_3 {R : ZMr} (hR : zRa R) : R 21 3 = 25 + 1 := hR.1 21 (by decide) (by decide) 3
theorem zk22 {K : ZKh} (hK : zKa K) : K 22 = (20, 10) := hK.1 22 (by decide) (by decide)
theorem zk23 {K : ZKh} (hK : zKa K) : K 23 = (20, 10) := hK.1 23 (by decide) (by decide)
theorem zk24 {K : ZKh} (hK : zKa K) : K 24 = (20, 10) := hK.1 24 (by decide) (by decide)
theorem zk25 {K : ZKh} (hK : zKa K) : K 25 = (20, 10) := hK.1 25 (by decide) (by decide)
theorem zk26 {K : ZKh} (hK : zKa K) : K 26 = (0, 0) := hK.1 26 (by decide) (by decide)
theorem zj26 {K : ZKh} (hK : zKa K) : (K 26).1 = 0 := congrArg Prod.fst (zk26 hK)
theorem zr26_0 {R : ZMr} (hR : zRa R) : R 26 0 = 27 + 1 := hR.1 26 (by decide) (by decide) 0
theorem zr26_1 {R : ZMr} (hR : zRa R) : R 26 1 = 28 + 1 := hR.1 26 (by decide) (by decide) 1
theorem zr26_2 {R : ZMr} (hR : zRa R) : R 26 2 = 29 + 1 := hR.1 26 (by decide) (by decide) 2
theorem zr26_3 {R : ZMr} (hR : zRa R) : R 26 3 = 30 + 1 := hR.1 26 (by decide) (by decide) 3
theorem zk27 {K : ZKh} (hK : zKa K) : K 27 = (20, 10) := hK.1 27 (by decide) (by decide)
theorem zk28 {K : ZKh} (hK : zKa K) : K 28 = (20, 10) := hK.1 28 (by decide) (by decide)
theorem zk29 {K : ZKh} (hK : zKa K) : K 29 = (20, 10) := hK.1 29 (by decide) (by decide)
theorem zk30 {K : ZKh} (hK : zKa K) : K 30 = (20, 10) := hK.1 30 (by decide) (by decide)
theorem zk31 {K : ZKh} (hK : zKa K) : K 31 = (2, 0) := hK.1 31 (by decide) (by decide)
theorem zj31 {K : ZKh} (hK : zKa K) : (K 31).1 = 2 := congrArg Prod.fst (zk31 hK)
theorem zr31_0 {R : ZMr} (hR : zRa R) : R 31 0 = 32 + 1 := hR.1 31 (by decide) (by decide) 0
theorem zr31_1 {R : ZMr} (hR : zRa R) : R 31 1 = 33 + 1 := hR.1 31 (by decide) (by decide) 1
theorem zk32 {K : ZKh} (hK : zKa K) : K 32 = (20, 37) := hK.1 32 (by decide) (by decide)
theorem zk33 {K : ZKh} (hK : zKa K) : K 33 = (21, 37) := hK.1 33 (by decide) (by decide)
theorem zk34 {K : ZKh} (hK : zKa K) : K 34 = (6, 0) := hK.1 34 (by decide) (by decide)
theorem zj34 {K : ZKh} (hK : zKa K) : (K 34).1 = 6 := congrArg Prod.fst (zk34 hK)
theorem zr34_0 {R : ZMr} (hR : zRa R) : R 34 0 = 35 + 1 := hR.1 34 (by decide) (by decide) 0
theorem zk35 {K : ZKh} (hK : zKa K) : K 35 = (21, 10) := hK.1 35 (by decide) (by decide)
theorem zk36 {K : ZKh} (hK : zKa K) : K 36 = (4, 0) := hK.1 36 (by decide) (by decide)
theorem zj36 {K : ZKh} (hK : zKa K) : (K 36).1 = 4 := congrArg Prod.fst (zk36 hK)
theorem zr36_0 {R : ZMr} (hR : zRa R) : R 36 0 = 37 + 1 := hR.1 36 (by decide) (by decide) 0
theorem zr36_1 {R : ZMr} (hR : zRa R) : R 36 1 = 38 + 1 := hR.1 36 (by decide) (by decide) 1
theorem zk37 {K : ZKh} (hK : zKa K) : K 37 = (23, 256) := hK.1 37 (by decide) (by decide)
theorem zk38 {K : ZKh} (hK : zKa K) : K 38 = (21, 256) := hK.1 38 (by decide) (by decide)
theorem zk119 {K : ZKh} (hK : zKb K) : K 119 = (12, 0) := hK 119 (by decide) (by decide)
theorem zj119 {K : ZKh} (hK : zKb K) : (K 119).1 = 12 := congrArg Prod.fst (zk119 hK)
theorem zr119_1 {R : ZMr} (hR : zRb R) : R 119 1 = 120 + 1 := hR 1
theorem zr119_2 {R : ZMr} (hR : zRb R) : R 119 2 = 121 + 1 := hR 2
theorem zr119_3 {R : ZMr} (hR : zRb R) : R 119 3 = 122 + 1 := hR 3
theorem zr119_4 {R : ZMr} (hR : zRb R) : R 119 4 = 123 + 1 := hR 4
theorem zr119_5 {R : ZMr} (hR : zRb R) : R 119 5 = 124 + 1 := hR 5
theorem zr119_6 {R : ZMr} (hR : zRb R) : R 119 6 = 125 + 1 := hR 6
theorem zr119_7 {R : ZMr} (hR : zRb R) : R 119 7 = 126 + 1 := hR 7
theorem zr119_8 {R : ZMr} (hR : zRb R) : R 119 8 = 127 + 1 := hR 8
theorem zr119_9 {R : ZMr} (hR : zRb R) : R 119 9 = 128 + 1 := hR 9
theorem zr119_10 {R : ZMr} (hR : zRb R) : R 119 10 = 129 + 1 := hR 10
theorem zr119_11 {R : ZMr} (hR : zRb R) : R 119 11 = 130 + 1 := hR 11
theorem zr119_12 {R : ZMr} (hR : zRb R) : R 119 12 = 131 + 1 := hR 12
theorem zr119_13 {R : ZMr} (hR : zRb R) : R 119 13 = 132 + 1 := hR 13
theorem zr119_14 {R : ZMr} (hR : zRb R) : R 119 14 = 133 + 1 := hR 14
theorem zr119_15 {R : ZMr} (hR : zRb R) : R 119 15 = 134 + 1 := hR 15
theorem zr119_16 {R : ZMr} (hR : zRb R) : R 119 16 = 135 + 1 := hR 16
theorem zr119_17 {R : ZMr} (hR : zRb R) : R 119 17 = 136 + 1 := hR 17
theorem zr119_18 {R : ZMr} (hR : zRb R) : R 119 18 = 137 + 1 := hR 18
theorem zr119_19 {R : ZMr} (hR : zRb R) : R 119 19 = 138 + 1 := hR 19
theorem zr119_20 {R : ZMr} (hR : zRb R) : R 119 20 = 139 + 1 := hR 20
theorem zr119_21 {R : ZMr} (hR : zRb R) : R 119 21 = 140 + 1 := hR 21
theorem zr119_22 {R : ZMr} (hR : zRb R) : R 119 22 = 141 + 1 := hR 22
theorem zr119_23 {R : ZMr} (hR : zRb R) : R 119 23 = 142 + 1 := hR 23
theorem zr119_24 {R : ZMr} (hR : zRb R) : R 119 24 = 143 + 1 := hR 24
theorem zr119_25 {R : ZMr} (hR : zRb R) : R 119 25 = 144 + 1 := hR 25
theorem zr119_26 {R : ZMr} (hR : zRb R) : R 119 26 = 145 + 1 := hR 26
theorem zr119_27 {R : ZMr} (hR : zRb R) : R 119 27 = 146 + 1 := hR 27
theorem zr119_28 {R : ZMr} (hR : zRb R) : R 119 28 = 147 + 1 := hR 28
theorem zr119_31 {R : ZMr} (hR : zRb R) : R 119 31 = 148 + 1 := hR 31
theorem zr119_33 {R : ZMr} (hR : zRb R) : R 119 33 = 149 + 1 := hR 33
theorem zr119_34 {R : ZMr} (hR : zRb R) : R 119 34 = 150 + 1 := hR 34
theorem zr119_35 {R : ZMr} (hR : zRb R) : R 119 35 = 151 + 1 := hR 35
theorem zr119_36 {R : ZMr} (hR : zRb R) : R 119 36 = 152 + 1 := hR 36
theorem zr119_37 {R : ZMr} (hR : zRb R) : R 119 37 = 153 + 1 := hR 37
theorem zk120 {K : ZKh} (hK : zKb K) : K 120 = (20, 400) := hK 120 (by decide) (by decide)
theorem zk121 {K : ZKh} (hK : zKb K) : K 121 = (20, 2) := hK 121 (by decide) (by decide)
theorem zk122 {K : ZKh} (hK : zKb K) : K 122 = (20, 12) := hK 122 (by decide) (by decide)
theorem zk123 {K : ZKh} (hK : zKb K) : K 123 = (20, 12) := hK 123 (by decide) (by decide)
theorem zk124 {K : ZKh} (hK : zKb K) : K 124 = (20, 2) := hK 124 (by decide) (by decide)
theorem zk125 {K : ZKh} (hK : zKb K) : K 125 = (20, 16) := hK 125 (by decide) (by decide)
theorem zk126 {K : ZKh} (hK : zKb K) : K 126 = (20, 16) := hK 126 (by decide) (by decide)
theorem zk127 {K : ZKh} (hK : zKb K) : K 127 = (20, 16) := hK 127 (by decide) (by decide)
theorem zk128 {K : ZKh} (hK : zKb K) : K 128 = (20, 16) := hK 128 (by decide) (by decide)
theorem zk129 {K : ZKh} (hK : zKb K) : K 129 = (20, 16) := hK 129 (by decide) (by decide)
theorem zk130 {K : ZKh} (hK : zKb K) : K 130 = (20, 16) := hK 130 (by decide) (by decide)
theorem zk131 {K : ZKh} (hK : zKb K) : K 131 = (20, 16) := hK 131 (by decide) (by decide)
theorem zk132 {K : ZKh} (hK : zKb K) : K 132 = (20, 16) := hK 132 (by decide) (by decide)
theorem zk133 {K : ZKh} (hK : zKb K) : K 133 = (20, 2) := hK 133 (by decide) (by decide)
theorem zk134 {K : ZKh} (hK : zKb K) : K 134 = (20, 48) := hK 134 (by decide) (by decide)
theorem zk135 {K : ZKh} (hK : zKb K) : K 135 = (20, 2) := hK 135 (by decide) (by decide)
theorem zk136 {K : ZKh} (hK : zKb K) : K 136 = (20, 36) := hK 136 (by decide) (by decide)
theorem zk137 {K : ZKh} (hK : zKb K) : K 137 = (20, 2) := hK 137 (by decide) (by decide)
theorem zk138 {K : ZKh} (hK : zKb K) : K 138 = (20, 12) := hK 138 (by decide) (by decide)
theorem zk139 {K : ZKh} (hK : zKb K) : K 139 = (20, 12) := hK 139 (by decide) (by decide)
theorem zk140 {K : ZKh} (hK : zKb K) : K 140 = (20, 12) := hK 140 (by decide) (by decide)
theorem zk141 {K : ZKh} (hK : zKb K) : K 141 = (20, 6) := hK 141 (by decide) (by decide)
theorem zk142 {K : ZKh} (hK : zKb K) : K 142 = (20, 10) := hK 142 (by decide) (by decide)
theorem zk143 {K : ZKh} (hK : zKb K) : K 143 = (20, 3) := hK 143 (by decide) (by decide)
theorem zk144 {K : ZKh} (hK : zKb K) : K 144 = (20, 30) := hK 144 (by decide) (by decide)
theorem zk145 {K : ZKh} (hK : zKb K) : K 145 = (20, 30) := hK 145 (by decide) (by decide)
theorem zk146 {K : ZKh} (hK : zKb K) : K 146 = (20, 30) := hK 146 (by decide) (by decide)
theorem zk147 {K : ZKh} (hK : zKb K) : K 147 = (20, 30) := hK 147 (by decide) (by decide)
theorem zk148 {K : ZKh} (hK : zKb K) : K 148 = (20, 5) := hK 148 (by decide) (by decide)
theorem zk149 {K : ZKh} (hK : zKb K) : K 149 = (20, 37) := hK 149 (by decide) (by decide)
theorem zk150 {K : ZKh} (hK : zKb K) : K 150 = (21, 37) := hK 150 (by decide) (by decide)
theorem zk151 {K : ZKh} (hK : zKb K) : K 151 = (21, 10) := hK 151 (by decide) (by decide)
theorem zk152 {K : ZKh} (hK : zKb K) : K 152 = (21, 256) := hK 152 (by decide) (by decide)
theorem zk153 {K : ZKh} (hK : zKb K) : K 153 = (20, 256) := hK 153 (by decide) (by decide)
theorem zk_in {K : ZKh} (hK : zKa K) {s : Nat} (hs : s < 6) : K (9 + s) = (20, 3) := by
  rw [hK.1 (9 + s) (by omega) (by omega)]
  exact (by decide : ∀ s, s < 6 → zKC (9 + s) = (20, 3)) s hs
theorem zr_in {R : ZMr} (hR : zRa R) {s : Nat} (hs : s < 6) : R 8 s = 9 + s + 1 := by
  rw [hR.1 8 (by omega) (by omega)]
  exact (by decide : ∀ s, s < 6 → zR0 8 s = 9 + s + 1) s hs
def zisA (a : Nat) : Prop := a = 16 ∨ a = 21 ∨ a = 26
theorem zj_A {K : ZKh} (hK : zKa K) {a : Nat} (ha : zisA a) : (K a).1 = 0 := by rcases ha with rfl | rfl | rfl <;> first | exact zj16 hK | exact zj21 hK | exact zj26 hK
theorem zk_A1 {K : ZKh} (hK : zKa K) {a : Nat} (ha : zisA a) : K (a + 1) = (20, 10) := by rcases ha with rfl | rfl | rfl <;> first | exact zk17 hK | exact zk22 hK | exact zk27 hK
theorem zr_A1 {R : ZMr} (hR : zRa R) {a : Nat} (ha : zisA a) : R a 0 = a + 1 + 1 := by rcases ha with rfl | rfl | rfl <;> first | exact zr16_0 hR | exact zr21_0 hR | exact zr26_0 hR
theorem zk_A2 {K : ZKh} (hK : zKa K) {a : Nat} (ha : zisA a) : K (a + 2) = (20, 10) := by rcases ha with rfl | rfl | rfl <;> first | exact zk18 hK | exact zk23 hK | exact zk28 hK
theorem zr_A2 {R : ZMr} (hR : zRa R) {a : Nat} (ha : zisA a) : R a 1 = a + 2 + 1 := by rcases ha with rfl | rfl | rfl <;> first | exact zr16_1 hR | exact zr21_1 hR | exact zr26_1 hR
theorem zk_A3 {K : ZKh} (hK : zKa K) {a : Nat} (ha : zisA a) : K (a + 3) = (20, 10) := by rcases ha with rfl | rfl | rfl <;> first | exact zk19 hK | exact zk24 hK | exact zk29 hK
theorem zr_A3 {R : ZMr} (hR : zRa R) {a : Nat} (ha : zisA a) : R a 2 = a + 3 + 1 := by rcases ha with rfl | rfl | rfl <;> first | exact zr16_2 hR | exact zr21_2 hR | exact zr26_2 hR
theorem zk_A4 {K : ZKh} (hK : zKa K) {a : Nat} (ha : zisA a) : K (a + 4) = (20, 10) := by rcases ha with rfl | rfl | rfl <;> first | exact zk20 hK | exact zk25 hK | exact zk30 hK
theorem zr_A4 {R : ZMr} (hR : zRa R) {a : Nat} (ha : zisA a) : R a 3 = a + 4 + 1 := by rcases ha with rfl | rfl | rfl <;> first | exact zr16_3 hR | exact zr21_3 hR | exact zr26_3 hR
theorem zk_W {K : ZKh} (hK : zKa K) {w : Nat} (hw : zisW w) : K (w) = (10, 0) := by
  rcases hw with rfl | rfl <;> exact hK.1 _ (by decide) (by decide)
theorem zj_W {K : ZKh} (hK : zKa K) {w : Nat} (hw : zisW w) : (K (w)).1 = 10 := congrArg Prod.fst (zk_W hK hw)
theorem zk_sts {K : ZKh} (hK : zKa K) {w : Nat} (hw : zisW w) : K (w + 1) = (24, 6) := by
  rcases hw with rfl | rfl <;> exact hK.1 _ (by decide) (by decide)
theorem zk_pts {K : ZKh} (hK : zKa K) {w : Nat} (hw : zisW w) : K (w + 2) = (25, 8) := by
  rcases hw with rfl | rfl <;> exact hK.1 _ (by decide) (by decide)
theorem zk_wys {K : ZKh} (hK : zKa K) {w : Nat} (hw : zisW w) : K (w + 3) = (26, 6) := by
  rcases hw with rfl | rfl <;> exact hK.1 _ (by decide) (by decide)
theorem zk_ear {K : ZKh} (hK : zKa K) {w : Nat} (hw : zisW w) : K (w + 4) = (20, 3) := by
  rcases hw with rfl | rfl <;> exact hK.1 _ (by decide) (by decide)
theorem zk_yrl {K : ZKh} (hK : zKa K) {w : Nat} (hw : zisW w) : K (w + 5) = (20, 5) := by
  rcases hw with rfl | rfl <;> exact hK.1 _ (by decide) (by decide)
theorem zk_stg {K : ZKh} (hK : zKa K) {w i : Nat} (hw : zisW w) (hi : i < 6) : K (w + 6 + 2 * i) = (7, 0) := by
  have h39 : ∀ i, i < 6 → zKC (39 + 6 + 2 * i) = (7, 0) := by decide
  have h79 : ∀ i, i < 6 → zKC (79 + 6 + 2 * i) = (7, 0) := by decide
  rcases hw with rfl | rfl
  · rw [hK.1 _ (by omega) (by omega)]; exact h39 i hi
  · rw [hK.1 _ (by omega) (by omega)]; exact h79 i hi
theorem zj_stg {K : ZKh} (hK : zKa K) {w i : Nat} (hw : zisW w) (hi : i < 6) : (K (w + 6 + 2 * i)).1 = 7 := congrArg Prod.fst (zk_stg hK hw hi)
theorem zk_mns {K : ZKh} (hK : zKa K) {w i : Nat} (hw : zisW w) (hi : i < 6) : K (w + 7 + 2 * i) = (20, 3) := by
  have h39 : ∀ i, i < 6 → zKC (39 + 7 + 2 * i) = (20, 3) := by decide
  have h79 : ∀ i, i < 6 → zKC (79 + 7 + 2 * i) = (20, 3) := by decide
  rcases hw with rfl | rfl
  · rw [hK.1 _ (by omega) (by omega)]; exact h39 i hi
  · rw [hK.1 _ (by omega) (by omega)]; exact h79 i hi
theorem zk_prt {K : ZKh} (hK : zKa K) {w i : Nat} (hw : zisW w) (hi : i < 8) : K (w + 18 + 2 * i) = (3, 0) := by
  have h39 : ∀ i, i < 8 → zKC (39 + 18 + 2 * i) = (3, 0) := by decide
  have h79 : ∀ i, i < 8 → zKC (79 + 18 + 2 * i) = (3, 0) := by decide
  rcases hw with rfl | rfl
  · rw [hK.1 _ (by omega) (by omega)]; exact h39 i hi
  · rw [hK.1 _ (by omega) (by omega)]; exact h79 i hi
theorem zj_prt {K : ZKh} (hK : zKa K) {w i : Nat} (hw : zisW w) (hi : i < 8) : (K (w + 18 + 2 * i)).1 = 3 := congrArg Prod.fst (zk_prt hK hw hi)
theorem zk_lts {K : ZKh} (hK : zKa K) {w i : Nat} (hw : zisW w) (hi : i < 8) : K (w + 19 + 2 * i) = (20, 3) := by
  have h39 : ∀ i, i < 8 → zKC (39 + 19 + 2 * i) = (20, 3) := by decide
  have h79 : ∀ i, i < 8 → zKC (79 + 19 + 2 * i) = (20, 3) := by decide
  rcases hw with rfl | rfl
  · rw [hK.1 _ (by omega) (by omega)]; exact h39 i hi
  · rw [hK.1 _ (by omega) (by omega)]; exact h79 i hi
theorem zk_way {K : ZKh} (hK : zKa K) {w i : Nat} (hw : zisW w) (hi : i < 6) : K (w + 34 + i) = (9, 0) := by
  have h39 : ∀ i, i < 6 → zKC (39 + 34 + i) = (9, 0) := by decide
  have h79 : ∀ i, i < 6 → zKC (79 + 34 + i) = (9, 0) := by decide
  rcases hw with rfl | rfl
  · rw [hK.1 _ (by omega) (by omega)]; exact h39 i hi
  · rw [hK.1 _ (by omega) (by omega)]; exact h79 i hi
theorem zj_way {K : ZKh} (hK : zKa K) {w i : Nat} (hw : zisW w) (hi : i < 6) : (K (w + 34 + i)).1 = 9 := congrArg Prod.fst (zk_way hK hw hi)
theorem zr_sts {R : ZMr} (hR : zRa R) {w : Nat} (hw : zisW w) : R w 0 = w + 1 + 1 := by
  rcases hw with rfl | rfl <;> exact hR.1 _ (by decide) (by decide) 0
theorem zr_pts {R : ZMr} (hR : zRa R) {w : Nat} (hw : zisW w) : R w 1 = w + 2 + 1 := by
  rcases hw with rfl | rfl <;> exact hR.1 _ (by decide) (by decide) 1
theorem zr_wys {R : ZMr} (hR : zRa R) {w : Nat} (hw : zisW w) : R w 2 = w + 3 + 1 := by
  rcases hw with rfl | rfl <;> exact hR.1 _ (by decide) (by decide) 2
theorem zr_ear {R : ZMr} (hR : zRa R) {w : Nat} (hw : zisW w) : R w 3 = w + 4 + 1 := by
  rcases hw with rfl | rfl <;> exact hR.1 _ (by decide) (by decide) 3
theorem zr_yrl {R : ZMr} (hR : zRa R) {w : Nat} (hw : zisW w) : R w 4 = w + 5 + 1 := by
  rcases hw with rfl | rfl <;> exact hR.1 _ (by decide) (by decide) 4
theorem zr_stg {R : ZMr} (hR : zRa R) {w i : Nat} (hw : zisW w) (hi : i < 6) : R (w + 1) i = w + 6 + 2 * i + 1 := by
  have h39 : ∀ i, i < 6 → zR0 (39 + 1) i = 39 + 6 + 2 * i + 1 := by decide
  have h79 : ∀ i, i < 6 → zR0 (79 + 1) i = 79 + 6 + 2 * i + 1 := by decide
  rcases hw with rfl | rfl
  · rw [hR.1 _ (by omega) (by omega)]; exact h39 i hi
  · rw [hR.1 _ (by omega) (by omega)]; exact h79 i hi
theorem zr_mns {R : ZMr} (hR : zRa R) {w i : Nat} (hw : zisW w) (hi : i < 6) : R (w + 6 + 2 * i) 0 = w + 7 + 2 * i + 1 := by
  have h39 : ∀ i, i < 6 → zR0 (39 + 6 + 2 * i) 0 = 39 + 7 + 2 * i + 1 := by decide
  have h79 : ∀ i, i < 6 → zR0 (79 + 6 + 2 * i) 0 = 79 + 7 + 2 * i + 1 := by decide
  rcases hw with rfl | rfl
  · rw [hR.1 _ (by omega) (by omega)]; exact h39 i hi
  · rw [hR.1 _ (by omega) (by omega)]; exact h79 i hi
theorem zr_prt {R : ZMr} (hR : zRa R) {w i : Nat} (hw : zisW w) (hi : i < 8) : R (w + 2) i = w + 18 + 2 * i + 1 := by
  have h39 : ∀ i, i < 8 → zR0 (39 + 2) i = 39 + 18 + 2 * i + 1 := by decide
  have h79 : ∀ i, i < 8 → zR0 (79 + 2) i = 79 + 18 + 2 * i + 1 := by decide
  rcases hw with rfl | rfl
  · rw [hR.1 _ (by omega) (by omega)]; exact h39 i hi
  · rw [hR.1 _ (by omega) (by omega)]; exact h79 i hi
theorem zr_lts {R : ZMr} (hR : zRa R) {w i : Nat} (hw : zisW w) (hi : i < 8) : R (w + 18 + 2 * i) 0 = w + 19 + 2 * i + 1 := by
  have h39 : ∀ i, i < 8 → zR0 (39 + 18 + 2 * i) 0 = 39 + 19 + 2 * i + 1 := by decide
  have h79 : ∀ i, i < 8 → zR0 (79 + 18 + 2 * i) 0 = 79 + 19 + 2 * i + 1 := by decide
  rcases hw with rfl | rfl
  · rw [hR.1 _ (by omega) (by omega)]; exact h39 i hi
  · rw [hR.1 _ (by omega) (by omega)]; exact h79 i hi
theorem zr_way {R : ZMr} (hR : zRa R) {w i : Nat} (hw : zisW w) (hi : i < 6) : R (w + 3) i = w + 34 + i + 1 := by
  have h39 : ∀ i, i < 6 → zR0 (39 + 3) i = 39 + 34 + i + 1 := by decide
  have h79 : ∀ i, i < 6 → zR0 (79 + 3) i = 79 + 34 + i + 1 := by decide
  rcases hw with rfl | rfl
  · rw [hR.1 _ (by omega) (by omega)]; exact h39 i hi
  · rw [hR.1 _ (by omega) (by omega)]; exact h79 i hi
