/-! THE MADE CELLS: their tags and sizes, and what refers to what (two pairs of rows change places: b1, b2) -/
def SHm : List (Nat × Nat) := [(18, 0), (14, 0), (3, 6), (1, 8), (12, 0), (12, 0), (12, 0), (12, 0), (12, 0), (12, 0), (14, 0), (3, 6), (1, 8), (12, 0), (12, 0), (12, 0), (12, 0), (12, 0), (12, 0), (15, 0), (14, 0), (3, 6), (1, 8), (12, 0), (12, 0), (12, 0), (12, 0), (12, 0), (12, 0), (1, 160), (4, 8), (1, 8), (17, 0), (12, 0), (1, 40), (11, 0), (1, 2000), (1, 2000), (1, 2000), (13, 0), (1, 201), (1, 201), (12, 0), (1, 201), (1, 201), (10, 0), (1, 20), (16, 0), (2, 160), (16, 0), (2, 160), (16, 0), (2, 160), (16, 0), (2, 160), (16, 0), (2, 160), (16, 0), (2, 160), (16, 0), (2, 160), (16, 0), (2, 160), (19, 0), (1, 8), (1, 6), (1, 6), (1, 6), (1, 6), (1, 6), (1, 8), (1, 8), (1, 8), (1, 8), (1, 8), (2, 1280), (2, 160), (1, 44), (1, 2), (1, 50), (1, 50), (1, 2010), (1, 2010), (1, 402), (1, 20)]
def RR (b1 b2 : Bool) (a k : Nat) : Nat := match a, k with
  | 20, 0 => 21
  | 20, 1 => 30
  | 20, 3 => 39
  | 20, 5 => 50
  | 20, 6 => 51
  | 20, 7 => 52
  | 20, 8 => 55
  | 20, 9 => 59
  | 20, 10 => 62
  | 20, 11 => 63
  | 20, 12 => 64
  | 20, 13 => 65
  | 21, 0 => 22
  | 21, 6 => 23
  | 22, 0 => 24
  | 22, 1 => 25
  | 22, 2 => 26
  | 22, 3 => 27
  | 22, 4 => 28
  | 22, 5 => 29
  | 30, 0 => 31
  | 30, 6 => 32
  | 31, 0 => 33
  | 31, 1 => 34
  | 31, 2 => 35
  | 31, 3 => 36
  | 31, 4 => 37
  | 31, 5 => 38
  | 39, 1 => 40
  | 39, 2 => 49
  | 40, 0 => 41
  | 40, 6 => 42
  | 41, 0 => 43
  | 41, 1 => 44
  | 41, 2 => 45
  | 41, 3 => 46
  | 41, 4 => 47
  | 41, 5 => 48
  | 50, 0 => 67
  | 50, 1 => 69
  | 50, 2 => 71
  | 50, 3 => 73
  | 50, 4 => 75
  | 50, 5 => 77
  | 50, 6 => 79
  | 50, 7 => 81
  | 52, 0 => 53
  | 52, 1 => 54
  | 55, 0 => (if b1 then 57 else 56)
  | 55, 1 => (if b1 then 56 else 57)
  | 55, 2 => 58
  | 59, 0 => (if b2 then 61 else 60)
  | 59, 1 => (if b2 then 60 else 61)
  | 65, 1 => 66
  | 67, 3 => 68
  | 69, 3 => 70
  | 71, 3 => 72
  | 73, 3 => 74
  | 75, 3 => 76
  | 77, 3 => 78
  | 79, 3 => 80
  | 81, 3 => 82
  | 83, 9 => 84
  | 83, 10 => 85
  | 83, 11 => 86
  | 83, 12 => 87
  | 83, 13 => 88
  | 83, 14 => 89
  | 83, 15 => 90
  | 83, 16 => 91
  | 83, 17 => 92
  | 83, 18 => 93
  | 83, 19 => 94
  | 83, 20 => 95
  | 83, 21 => 96
  | 83, 22 => 97
  | 83, 23 => 98
  | 83, 29 => 99
  | 83, 30 => 100
  | 83, 35 => 101
  | 83, 36 => 102
  | 83, 38 => 103
  | 83, 39 => 104
  | _, _ => 0
def Geo (L : Nat) (b1 b2 : Bool) (M : XM) : Prop := M.1 = x_sh0 L ++ SHm ∧ M.2.2.2 = RR b1 b2
section
variable {L : Nat} {b1 b2 : Bool} {M : XM}
theorem Geo_wi {a k : Nat} {v : Int32} : Geo L b1 b2 (x_wi M a k v) = Geo L b1 b2 M := rfl
theorem Geo_wj {a k : Nat} {v : Int64} : Geo L b1 b2 (x_wj M a k v) = Geo L b1 b2 M := rfl
theorem Geo_cp {a s b d n : Nat} : Geo L b1 b2 (x_cpj M a s b d n) = Geo L b1 b2 M := rfl
theorem ge_tag {a : Nat} (h : Geo L b1 b2 M) : x_tag M a = ((x_sh0 L ++ SHm).getD a (0, 0)).1 := by unfold x_tag; rw [h.1]
theorem ge_len {a : Nat} (h : Geo L b1 b2 M) : x_len M a = ((x_sh0 L ++ SHm).getD a (0, 0)).2 := by unfold x_len; rw [h.1]
theorem ge_ref {a k : Nat} (h : Geo L b1 b2 M) : x_r M a k = RR b1 b2 a k := by show M.2.2.2 a k = _; rw [h.2]
theorem gt_1 (h : Geo L b1 b2 M) : x_tag M 1 = 5 := (ge_tag h).trans rfl
theorem gl_1 (h : Geo L b1 b2 M) : x_len M 1 = L := (ge_len h).trans rfl
theorem gt_2 (h : Geo L b1 b2 M) : x_tag M 2 = 5 := (ge_tag h).trans rfl
theorem gl_2 (h : Geo L b1 b2 M) : x_len M 2 = 7 := (ge_len h).trans rfl
theorem gt_3 (h : Geo L b1 b2 M) : x_tag M 3 = 5 := (ge_tag h).trans rfl
theorem gl_3 (h : Geo L b1 b2 M) : x_len M 3 = 4 := (ge_len h).trans rfl
theorem gt_4 (h : Geo L b1 b2 M) : x_tag M 4 = 5 := (ge_tag h).trans rfl
theorem gl_4 (h : Geo L b1 b2 M) : x_len M 4 = 4 := (ge_len h).trans rfl
theorem gt_5 (h : Geo L b1 b2 M) : x_tag M 5 = 7 := (ge_tag h).trans rfl
theorem gt_6 (h : Geo L b1 b2 M) : x_tag M 6 = 7 := (ge_tag h).trans rfl
theorem gt_7 (h : Geo L b1 b2 M) : x_tag M 7 = 7 := (ge_tag h).trans rfl
theorem gt_8 (h : Geo L b1 b2 M) : x_tag M 8 = 7 := (ge_tag h).trans rfl
theorem gt_9 (h : Geo L b1 b2 M) : x_tag M 9 = 7 := (ge_tag h).trans rfl
theorem gt_10 (h : Geo L b1 b2 M) : x_tag M 10 = 7 := (ge_tag h).trans rfl
theorem gt_11 (h : Geo L b1 b2 M) : x_tag M 11 = 7 := (ge_tag h).trans rfl
theorem gt_12 (h : Geo L b1 b2 M) : x_tag M 12 = 6 := (ge_tag h).trans rfl
theorem gl_12 (h : Geo L b1 b2 M) : x_len M 12 = 2 := (ge_len h).trans rfl
theorem gt_13 (h : Geo L b1 b2 M) : x_tag M 13 = 6 := (ge_tag h).trans rfl
theorem gl_13 (h : Geo L b1 b2 M) : x_len M 13 = 5 := (ge_len h).trans rfl
theorem gt_14 (h : Geo L b1 b2 M) : x_tag M 14 = 6 := (ge_tag h).trans rfl
theorem gl_14 (h : Geo L b1 b2 M) : x_len M 14 = 4 := (ge_len h).trans rfl
theorem gt_15 (h : Geo L b1 b2 M) : x_tag M 15 = 6 := (ge_tag h).trans rfl
theorem gl_15 (h : Geo L b1 b2 M) : x_len M 15 = 4 := (ge_len h).trans rfl
theorem gt_16 (h : Geo L b1 b2 M) : x_tag M 16 = 6 := (ge_tag h).trans rfl
theorem gl_16 (h : Geo L b1 b2 M) : x_len M 16 = 5 := (ge_len h).trans rfl
theorem gt_17 (h : Geo L b1 b2 M) : x_tag M 17 = 6 := (ge_tag h).trans rfl
theorem gl_17 (h : Geo L b1 b2 M) : x_len M 17 = 7 := (ge_len h).trans rfl
theorem gt_18 (h : Geo L b1 b2 M) : x_tag M 18 = 6 := (ge_tag h).trans rfl
theorem gl_18 (h : Geo L b1 b2 M) : x_len M 18 = 3 := (ge_len h).trans rfl
theorem gt_19 (h : Geo L b1 b2 M) : x_tag M 19 = 8 := (ge_tag h).trans rfl
theorem gt_20 (h : Geo L b1 b2 M) : x_tag M 20 = 18 := (ge_tag h).trans rfl
theorem gt_21 (h : Geo L b1 b2 M) : x_tag M 21 = 14 := (ge_tag h).trans rfl
theorem gt_22 (h : Geo L b1 b2 M) : x_tag M 22 = 3 := (ge_tag h).trans rfl
theorem gl_22 (h : Geo L b1 b2 M) : x_len M 22 = 6 := (ge_len h).trans rfl
theorem gt_23 (h : Geo L b1 b2 M) : x_tag M 23 = 1 := (ge_tag h).trans rfl
theorem gl_23 (h : Geo L b1 b2 M) : x_len M 23 = 8 := (ge_len h).trans rfl
theorem gt_24 (h : Geo L b1 b2 M) : x_tag M 24 = 12 := (ge_tag h).trans rfl
theorem gt_25 (h : Geo L b1 b2 M) : x_tag M 25 = 12 := (ge_tag h).trans rfl
theorem gt_26 (h : Geo L b1 b2 M) : x_tag M 26 = 12 := (ge_tag h).trans rfl
theorem gt_27 (h : Geo L b1 b2 M) : x_tag M 27 = 12 := (ge_tag h).trans rfl
theorem gt_28 (h : Geo L b1 b2 M) : x_tag M 28 = 12 := (ge_tag h).trans rfl
theorem gt_29 (h : Geo L b1 b2 M) : x_tag M 29 = 12 := (ge_tag h).trans rfl
theorem gt_30 (h : Geo L b1 b2 M) : x_tag M 30 = 14 := (ge_tag h).trans rfl
theorem gt_31 (h : Geo L b1 b2 M) : x_tag M 31 = 3 := (ge_tag h).trans rfl
theorem gl_31 (h : Geo L b1 b2 M) : x_len M 31 = 6 := (ge_len h).trans rfl
theorem gt_32 (h : Geo L b1 b2 M) : x_tag M 32 = 1 := (ge_tag h).trans rfl
theorem gl_32 (h : Geo L b1 b2 M) : x_len M 32 = 8 := (ge_len h).trans rfl
theorem gt_33 (h : Geo L b1 b2 M) : x_tag M 33 = 12 := (ge_tag h).trans rfl
theorem gt_34 (h : Geo L b1 b2 M) : x_tag M 34 = 12 := (ge_tag h).trans rfl
theorem gt_35 (h : Geo L b1 b2 M) : x_tag M 35 = 12 := (ge_tag h).trans rfl
theorem gt_36 (h : Geo L b1 b2 M) : x_tag M 36 = 12 := (ge_tag h).trans rfl
theorem gt_37 (h : Geo L b1 b2 M) : x_tag M 37 = 12 := (ge_tag h).trans rfl
theorem gt_38 (h : Geo L b1 b2 M) : x_tag M 38 = 12 := (ge_tag h).trans rfl
theorem gt_39 (h : Geo L b1 b2 M) : x_tag M 39 = 15 := (ge_tag h).trans rfl
theorem gt_40 (h : Geo L b1 b2 M) : x_tag M 40 = 14 := (ge_tag h).trans rfl
theorem gt_41 (h : Geo L b1 b2 M) : x_tag M 41 = 3 := (ge_tag h).trans rfl
theorem gl_41 (h : Geo L b1 b2 M) : x_len M 41 = 6 := (ge_len h).trans rfl
theorem gt_42 (h : Geo L b1 b2 M) : x_tag M 42 = 1 := (ge_tag h).trans rfl
theorem gl_42 (h : Geo L b1 b2 M) : x_len M 42 = 8 := (ge_len h).trans rfl
theorem gt_43 (h : Geo L b1 b2 M) : x_tag M 43 = 12 := (ge_tag h).trans rfl
theorem gt_44 (h : Geo L b1 b2 M) : x_tag M 44 = 12 := (ge_tag h).trans rfl
theorem gt_45 (h : Geo L b1 b2 M) : x_tag M 45 = 12 := (ge_tag h).trans rfl
theorem gt_46 (h : Geo L b1 b2 M) : x_tag M 46 = 12 := (ge_tag h).trans rfl
theorem gt_47 (h : Geo L b1 b2 M) : x_tag M 47 = 12 := (ge_tag h).trans rfl
theorem gt_48 (h : Geo L b1 b2 M) : x_tag M 48 = 12 := (ge_tag h).trans rfl
theorem gt_49 (h : Geo L b1 b2 M) : x_tag M 49 = 1 := (ge_tag h).trans rfl
theorem gl_49 (h : Geo L b1 b2 M) : x_len M 49 = 160 := (ge_len h).trans rfl
theorem gt_50 (h : Geo L b1 b2 M) : x_tag M 50 = 4 := (ge_tag h).trans rfl
theorem gl_50 (h : Geo L b1 b2 M) : x_len M 50 = 8 := (ge_len h).trans rfl
theorem gt_51 (h : Geo L b1 b2 M) : x_tag M 51 = 1 := (ge_tag h).trans rfl
theorem gl_51 (h : Geo L b1 b2 M) : x_len M 51 = 8 := (ge_len h).trans rfl
theorem gt_52 (h : Geo L b1 b2 M) : x_tag M 52 = 17 := (ge_tag h).trans rfl
theorem gt_53 (h : Geo L b1 b2 M) : x_tag M 53 = 12 := (ge_tag h).trans rfl
theorem gt_54 (h : Geo L b1 b2 M) : x_tag M 54 = 1 := (ge_tag h).trans rfl
theorem gl_54 (h : Geo L b1 b2 M) : x_len M 54 = 40 := (ge_len h).trans rfl
theorem gt_55 (h : Geo L b1 b2 M) : x_tag M 55 = 11 := (ge_tag h).trans rfl
theorem gt_56 (h : Geo L b1 b2 M) : x_tag M 56 = 1 := (ge_tag h).trans rfl
theorem gl_56 (h : Geo L b1 b2 M) : x_len M 56 = 2000 := (ge_len h).trans rfl
theorem gt_57 (h : Geo L b1 b2 M) : x_tag M 57 = 1 := (ge_tag h).trans rfl
theorem gl_57 (h : Geo L b1 b2 M) : x_len M 57 = 2000 := (ge_len h).trans rfl
theorem gt_58 (h : Geo L b1 b2 M) : x_tag M 58 = 1 := (ge_tag h).trans rfl
theorem gl_58 (h : Geo L b1 b2 M) : x_len M 58 = 2000 := (ge_len h).trans rfl
theorem gt_59 (h : Geo L b1 b2 M) : x_tag M 59 = 13 := (ge_tag h).trans rfl
theorem gt_60 (h : Geo L b1 b2 M) : x_tag M 60 = 1 := (ge_tag h).trans rfl
theorem gl_60 (h : Geo L b1 b2 M) : x_len M 60 = 201 := (ge_len h).trans rfl
theorem gt_61 (h : Geo L b1 b2 M) : x_tag M 61 = 1 := (ge_tag h).trans rfl
theorem gl_61 (h : Geo L b1 b2 M) : x_len M 61 = 201 := (ge_len h).trans rfl
theorem gt_62 (h : Geo L b1 b2 M) : x_tag M 62 = 12 := (ge_tag h).trans rfl
theorem gt_63 (h : Geo L b1 b2 M) : x_tag M 63 = 1 := (ge_tag h).trans rfl
theorem gl_63 (h : Geo L b1 b2 M) : x_len M 63 = 201 := (ge_len h).trans rfl
theorem gt_64 (h : Geo L b1 b2 M) : x_tag M 64 = 1 := (ge_tag h).trans rfl
theorem gl_64 (h : Geo L b1 b2 M) : x_len M 64 = 201 := (ge_len h).trans rfl
theorem gt_65 (h : Geo L b1 b2 M) : x_tag M 65 = 10 := (ge_tag h).trans rfl
theorem gt_66 (h : Geo L b1 b2 M) : x_tag M 66 = 1 := (ge_tag h).trans rfl
theorem gl_66 (h : Geo L b1 b2 M) : x_len M 66 = 20 := (ge_len h).trans rfl
theorem gt_67 (h : Geo L b1 b2 M) : x_tag M 67 = 16 := (ge_tag h).trans rfl
theorem gt_68 (h : Geo L b1 b2 M) : x_tag M 68 = 2 := (ge_tag h).trans rfl
theorem gl_68 (h : Geo L b1 b2 M) : x_len M 68 = 160 := (ge_len h).trans rfl
theorem gt_69 (h : Geo L b1 b2 M) : x_tag M 69 = 16 := (ge_tag h).trans rfl
theorem gt_70 (h : Geo L b1 b2 M) : x_tag M 70 = 2 := (ge_tag h).trans rfl
theorem gl_70 (h : Geo L b1 b2 M) : x_len M 70 = 160 := (ge_len h).trans rfl
theorem gt_71 (h : Geo L b1 b2 M) : x_tag M 71 = 16 := (ge_tag h).trans rfl
theorem gt_72 (h : Geo L b1 b2 M) : x_tag M 72 = 2 := (ge_tag h).trans rfl
theorem gl_72 (h : Geo L b1 b2 M) : x_len M 72 = 160 := (ge_len h).trans rfl
theorem gt_73 (h : Geo L b1 b2 M) : x_tag M 73 = 16 := (ge_tag h).trans rfl
theorem gt_74 (h : Geo L b1 b2 M) : x_tag M 74 = 2 := (ge_tag h).trans rfl
theorem gl_74 (h : Geo L b1 b2 M) : x_len M 74 = 160 := (ge_len h).trans rfl
theorem gt_75 (h : Geo L b1 b2 M) : x_tag M 75 = 16 := (ge_tag h).trans rfl
theorem gt_76 (h : Geo L b1 b2 M) : x_tag M 76 = 2 := (ge_tag h).trans rfl
theorem gl_76 (h : Geo L b1 b2 M) : x_len M 76 = 160 := (ge_len h).trans rfl
theorem gt_77 (h : Geo L b1 b2 M) : x_tag M 77 = 16 := (ge_tag h).trans rfl
theorem gt_78 (h : Geo L b1 b2 M) : x_tag M 78 = 2 := (ge_tag h).trans rfl
theorem gl_78 (h : Geo L b1 b2 M) : x_len M 78 = 160 := (ge_len h).trans rfl
theorem gt_79 (h : Geo L b1 b2 M) : x_tag M 79 = 16 := (ge_tag h).trans rfl
theorem gt_80 (h : Geo L b1 b2 M) : x_tag M 80 = 2 := (ge_tag h).trans rfl
theorem gl_80 (h : Geo L b1 b2 M) : x_len M 80 = 160 := (ge_len h).trans rfl
theorem gt_81 (h : Geo L b1 b2 M) : x_tag M 81 = 16 := (ge_tag h).trans rfl
theorem gt_82 (h : Geo L b1 b2 M) : x_tag M 82 = 2 := (ge_tag h).trans rfl
theorem gl_82 (h : Geo L b1 b2 M) : x_len M 82 = 160 := (ge_len h).trans rfl
theorem gt_83 (h : Geo L b1 b2 M) : x_tag M 83 = 19 := (ge_tag h).trans rfl
theorem gt_84 (h : Geo L b1 b2 M) : x_tag M 84 = 1 := (ge_tag h).trans rfl
theorem gl_84 (h : Geo L b1 b2 M) : x_len M 84 = 8 := (ge_len h).trans rfl
theorem gt_85 (h : Geo L b1 b2 M) : x_tag M 85 = 1 := (ge_tag h).trans rfl
theorem gl_85 (h : Geo L b1 b2 M) : x_len M 85 = 6 := (ge_len h).trans rfl
theorem gt_86 (h : Geo L b1 b2 M) : x_tag M 86 = 1 := (ge_tag h).trans rfl
theorem gl_86 (h : Geo L b1 b2 M) : x_len M 86 = 6 := (ge_len h).trans rfl
theorem gt_87 (h : Geo L b1 b2 M) : x_tag M 87 = 1 := (ge_tag h).trans rfl
theorem gl_87 (h : Geo L b1 b2 M) : x_len M 87 = 6 := (ge_len h).trans rfl
theorem gt_88 (h : Geo L b1 b2 M) : x_tag M 88 = 1 := (ge_tag h).trans rfl
theorem gl_88 (h : Geo L b1 b2 M) : x_len M 88 = 6 := (ge_len h).trans rfl
theorem gt_89 (h : Geo L b1 b2 M) : x_tag M 89 = 1 := (ge_tag h).trans rfl
theorem gl_89 (h : Geo L b1 b2 M) : x_len M 89 = 6 := (ge_len h).trans rfl
theorem gt_90 (h : Geo L b1 b2 M) : x_tag M 90 = 1 := (ge_tag h).trans rfl
theorem gl_90 (h : Geo L b1 b2 M) : x_len M 90 = 8 := (ge_len h).trans rfl
theorem gt_91 (h : Geo L b1 b2 M) : x_tag M 91 = 1 := (ge_tag h).trans rfl
theorem gl_91 (h : Geo L b1 b2 M) : x_len M 91 = 8 := (ge_len h).trans rfl
theorem gt_92 (h : Geo L b1 b2 M) : x_tag M 92 = 1 := (ge_tag h).trans rfl
theorem gl_92 (h : Geo L b1 b2 M) : x_len M 92 = 8 := (ge_len h).trans rfl
theorem gt_93 (h : Geo L b1 b2 M) : x_tag M 93 = 1 := (ge_tag h).trans rfl
theorem gl_93 (h : Geo L b1 b2 M) : x_len M 93 = 8 := (ge_len h).trans rfl
theorem gt_94 (h : Geo L b1 b2 M) : x_tag M 94 = 1 := (ge_tag h).trans rfl
theorem gl_94 (h : Geo L b1 b2 M) : x_len M 94 = 8 := (ge_len h).trans rfl
theorem gt_95 (h : Geo L b1 b2 M) : x_tag M 95 = 2 := (ge_tag h).trans rfl
theorem gl_95 (h : Geo L b1 b2 M) : x_len M 95 = 1280 := (ge_len h).trans rfl
theorem gt_96 (h : Geo L b1 b2 M) : x_tag M 96 = 2 := (ge_tag h).trans rfl
theorem gl_96 (h : Geo L b1 b2 M) : x_len M 96 = 160 := (ge_len h).trans rfl
theorem gt_97 (h : Geo L b1 b2 M) : x_tag M 97 = 1 := (ge_tag h).trans rfl
theorem gl_97 (h : Geo L b1 b2 M) : x_len M 97 = 44 := (ge_len h).trans rfl
theorem gt_98 (h : Geo L b1 b2 M) : x_tag M 98 = 1 := (ge_tag h).trans rfl
theorem gl_98 (h : Geo L b1 b2 M) : x_len M 98 = 2 := (ge_len h).trans rfl
theorem gt_99 (h : Geo L b1 b2 M) : x_tag M 99 = 1 := (ge_tag h).trans rfl
theorem gl_99 (h : Geo L b1 b2 M) : x_len M 99 = 50 := (ge_len h).trans rfl
theorem gt_100 (h : Geo L b1 b2 M) : x_tag M 100 = 1 := (ge_tag h).trans rfl
theorem gl_100 (h : Geo L b1 b2 M) : x_len M 100 = 50 := (ge_len h).trans rfl
theorem gt_101 (h : Geo L b1 b2 M) : x_tag M 101 = 1 := (ge_tag h).trans rfl
theorem gl_101 (h : Geo L b1 b2 M) : x_len M 101 = 2010 := (ge_len h).trans rfl
theorem gt_102 (h : Geo L b1 b2 M) : x_tag M 102 = 1 := (ge_tag h).trans rfl
theorem gl_102 (h : Geo L b1 b2 M) : x_len M 102 = 2010 := (ge_len h).trans rfl
theorem gt_103 (h : Geo L b1 b2 M) : x_tag M 103 = 1 := (ge_tag h).trans rfl
theorem gl_103 (h : Geo L b1 b2 M) : x_len M 103 = 402 := (ge_len h).trans rfl
theorem gt_104 (h : Geo L b1 b2 M) : x_tag M 104 = 1 := (ge_tag h).trans rfl
theorem gl_104 (h : Geo L b1 b2 M) : x_len M 104 = 20 := (ge_len h).trans rfl
theorem gr_20_0 (h : Geo L b1 b2 M) : x_r M 20 0 = 21 := (ge_ref h).trans rfl
theorem gr_20_1 (h : Geo L b1 b2 M) : x_r M 20 1 = 30 := (ge_ref h).trans rfl
theorem gr_20_3 (h : Geo L b1 b2 M) : x_r M 20 3 = 39 := (ge_ref h).trans rfl
theorem gr_20_5 (h : Geo L b1 b2 M) : x_r M 20 5 = 50 := (ge_ref h).trans rfl
theorem gr_20_6 (h : Geo L b1 b2 M) : x_r M 20 6 = 51 := (ge_ref h).trans rfl
theorem gr_20_7 (h : Geo L b1 b2 M) : x_r M 20 7 = 52 := (ge_ref h).trans rfl
theorem gr_20_8 (h : Geo L b1 b2 M) : x_r M 20 8 = 55 := (ge_ref h).trans rfl
theorem gr_20_9 (h : Geo L b1 b2 M) : x_r M 20 9 = 59 := (ge_ref h).trans rfl
theorem gr_20_10 (h : Geo L b1 b2 M) : x_r M 20 10 = 62 := (ge_ref h).trans rfl
theorem gr_20_11 (h : Geo L b1 b2 M) : x_r M 20 11 = 63 := (ge_ref h).trans rfl
theorem gr_20_12 (h : Geo L b1 b2 M) : x_r M 20 12 = 64 := (ge_ref h).trans rfl
theorem gr_20_13 (h : Geo L b1 b2 M) : x_r M 20 13 = 65 := (ge_ref h).trans rfl
theorem gr_21_0 (h : Geo L b1 b2 M) : x_r M 21 0 = 22 := (ge_ref h).trans rfl
theorem gr_21_6 (h : Geo L b1 b2 M) : x_r M 21 6 = 23 := (ge_ref h).trans rfl
theorem gr_22_0 (h : Geo L b1 b2 M) : x_r M 22 0 = 24 := (ge_ref h).trans rfl
theorem gr_22_1 (h : Geo L b1 b2 M) : x_r M 22 1 = 25 := (ge_ref h).trans rfl
theorem gr_22_2 (h : Geo L b1 b2 M) : x_r M 22 2 = 26 := (ge_ref h).trans rfl
theorem gr_22_3 (h : Geo L b1 b2 M) : x_r M 22 3 = 27 := (ge_ref h).trans rfl
theorem gr_22_4 (h : Geo L b1 b2 M) : x_r M 22 4 = 28 := (ge_ref h).trans rfl
theorem gr_22_5 (h : Geo L b1 b2 M) : x_r M 22 5 = 29 := (ge_ref h).trans rfl
theorem gr_30_0 (h : Geo L b1 b2 M) : x_r M 30 0 = 31 := (ge_ref h).trans rfl
theorem gr_30_6 (h : Geo L b1 b2 M) : x_r M 30 6 = 32 := (ge_ref h).trans rfl
theorem gr_31_0 (h : Geo L b1 b2 M) : x_r M 31 0 = 33 := (ge_ref h).trans rfl
theorem gr_31_1 (h : Geo L b1 b2 M) : x_r M 31 1 = 34 := (ge_ref h).trans rfl
theorem gr_31_2 (h : Geo L b1 b2 M) : x_r M 31 2 = 35 := (ge_ref h).trans rfl
theorem gr_31_3 (h : Geo L b1 b2 M) : x_r M 31 3 = 36 := (ge_ref h).trans rfl
theorem gr_31_4 (h : Geo L b1 b2 M) : x_r M 31 4 = 37 := (ge_ref h).trans rfl
theorem gr_31_5 (h : Geo L b1 b2 M) : x_r M 31 5 = 38 := (ge_ref h).trans rfl
theorem gr_39_1 (h : Geo L b1 b2 M) : x_r M 39 1 = 40 := (ge_ref h).trans rfl
theorem gr_39_2 (h : Geo L b1 b2 M) : x_r M 39 2 = 49 := (ge_ref h).trans rfl
theorem gr_40_0 (h : Geo L b1 b2 M) : x_r M 40 0 = 41 := (ge_ref h).trans rfl
theorem gr_40_6 (h : Geo L b1 b2 M) : x_r M 40 6 = 42 := (ge_ref h).trans rfl
theorem gr_41_0 (h : Geo L b1 b2 M) : x_r M 41 0 = 43 := (ge_ref h).trans rfl
theorem gr_41_1 (h : Geo L b1 b2 M) : x_r M 41 1 = 44 := (ge_ref h).trans rfl
theorem gr_41_2 (h : Geo L b1 b2 M) : x_r M 41 2 = 45 := (ge_ref h).trans rfl
theorem gr_41_3 (h : Geo L b1 b2 M) : x_r M 41 3 = 46 := (ge_ref h).trans rfl
theorem gr_41_4 (h : Geo L b1 b2 M) : x_r M 41 4 = 47 := (ge_ref h).trans rfl
theorem gr_41_5 (h : Geo L b1 b2 M) : x_r M 41 5 = 48 := (ge_ref h).trans rfl
theorem gr_50_0 (h : Geo L b1 b2 M) : x_r M 50 0 = 67 := (ge_ref h).trans rfl
theorem gr_50_1 (h : Geo L b1 b2 M) : x_r M 50 1 = 69 := (ge_ref h).trans rfl
theorem gr_50_2 (h : Geo L b1 b2 M) : x_r M 50 2 = 71 := (ge_ref h).trans rfl
theorem gr_50_3 (h : Geo L b1 b2 M) : x_r M 50 3 = 73 := (ge_ref h).trans rfl
theorem gr_50_4 (h : Geo L b1 b2 M) : x_r M 50 4 = 75 := (ge_ref h).trans rfl
theorem gr_50_5 (h : Geo L b1 b2 M) : x_r M 50 5 = 77 := (ge_ref h).trans rfl
theorem gr_50_6 (h : Geo L b1 b2 M) : x_r M 50 6 = 79 := (ge_ref h).trans rfl
theorem gr_50_7 (h : Geo L b1 b2 M) : x_r M 50 7 = 81 := (ge_ref h).trans rfl
theorem gr_52_0 (h : Geo L b1 b2 M) : x_r M 52 0 = 53 := (ge_ref h).trans rfl
theorem gr_52_1 (h : Geo L b1 b2 M) : x_r M 52 1 = 54 := (ge_ref h).trans rfl
theorem gr_55_2 (h : Geo L b1 b2 M) : x_r M 55 2 = 58 := (ge_ref h).trans rfl
theorem gr_65_1 (h : Geo L b1 b2 M) : x_r M 65 1 = 66 := (ge_ref h).trans rfl
theorem gr_67_3 (h : Geo L b1 b2 M) : x_r M 67 3 = 68 := (ge_ref h).trans rfl
theorem gr_69_3 (h : Geo L b1 b2 M) : x_r M 69 3 = 70 := (ge_ref h).trans rfl
theorem gr_71_3 (h : Geo L b1 b2 M) : x_r M 71 3 = 72 := (ge_ref h).trans rfl
theorem gr_73_3 (h : Geo L b1 b2 M) : x_r M 73 3 = 74 := (ge_ref h).trans rfl
theorem gr_75_3 (h : Geo L b1 b2 M) : x_r M 75 3 = 76 := (ge_ref h).trans rfl
theorem gr_77_3 (h : Geo L b1 b2 M) : x_r M 77 3 = 78 := (ge_ref h).trans rfl
theorem gr_79_3 (h : Geo L b1 b2 M) : x_r M 79 3 = 80 := (ge_ref h).trans rfl
theorem gr_81_3 (h : Geo L b1 b2 M) : x_r M 81 3 = 82 := (ge_ref h).trans rfl
theorem gr_83_9 (h : Geo L b1 b2 M) : x_r M 83 9 = 84 := (ge_ref h).trans rfl
theorem gr_83_10 (h : Geo L b1 b2 M) : x_r M 83 10 = 85 := (ge_ref h).trans rfl
theorem gr_83_11 (h : Geo L b1 b2 M) : x_r M 83 11 = 86 := (ge_ref h).trans rfl
theorem gr_83_12 (h : Geo L b1 b2 M) : x_r M 83 12 = 87 := (ge_ref h).trans rfl
theorem gr_83_13 (h : Geo L b1 b2 M) : x_r M 83 13 = 88 := (ge_ref h).trans rfl
theorem gr_83_14 (h : Geo L b1 b2 M) : x_r M 83 14 = 89 := (ge_ref h).trans rfl
theorem gr_83_15 (h : Geo L b1 b2 M) : x_r M 83 15 = 90 := (ge_ref h).trans rfl
theorem gr_83_16 (h : Geo L b1 b2 M) : x_r M 83 16 = 91 := (ge_ref h).trans rfl
theorem gr_83_17 (h : Geo L b1 b2 M) : x_r M 83 17 = 92 := (ge_ref h).trans rfl
theorem gr_83_18 (h : Geo L b1 b2 M) : x_r M 83 18 = 93 := (ge_ref h).trans rfl
theorem gr_83_19 (h : Geo L b1 b2 M) : x_r M 83 19 = 94 := (ge_ref h).trans rfl
theorem gr_83_20 (h : Geo L b1 b2 M) : x_r M 83 20 = 95 := (ge_ref h).trans rfl
theorem gr_83_21 (h : Geo L b1 b2 M) : x_r M 83 21 = 96 := (ge_ref h).trans rfl
theorem gr_83_22 (h : Geo L b1 b2 M) : x_r M 83 22 = 97 := (ge_ref h).trans rfl
theorem gr_83_23 (h : Geo L b1 b2 M) : x_r M 83 23 = 98 := (ge_ref h).trans rfl
theorem gr_83_29 (h : Geo L b1 b2 M) : x_r M 83 29 = 99 := (ge_ref h).trans rfl
theorem gr_83_30 (h : Geo L b1 b2 M) : x_r M 83 30 = 100 := (ge_ref h).trans rfl
theorem gr_83_35 (h : Geo L b1 b2 M) : x_r M 83 35 = 101 := (ge_ref h).trans rfl
theorem gr_83_36 (h : Geo L b1 b2 M) : x_r M 83 36 = 102 := (ge_ref h).trans rfl
theorem gr_83_38 (h : Geo L b1 b2 M) : x_r M 83 38 = 103 := (ge_ref h).trans rfl
theorem gr_83_39 (h : Geo L b1 b2 M) : x_r M 83 39 = 104 := (ge_ref h).trans rfl
theorem gr_55_0 (h : Geo L b1 b2 M) : x_r M 55 0 = (if b1 then 57 else 56) := (ge_ref h).trans rfl
theorem gr_55_1 (h : Geo L b1 b2 M) : x_r M 55 1 = (if b1 then 56 else 57) := (ge_ref h).trans rfl
theorem gr_59_0 (h : Geo L b1 b2 M) : x_r M 59 0 = (if b2 then 61 else 60) := (ge_ref h).trans rfl
theorem gr_59_1 (h : Geo L b1 b2 M) : x_r M 59 1 = (if b2 then 60 else 61) := (ge_ref h).trans rfl
theorem gc_22 {k : Nat} (h : Geo L b1 b2 M) (hk : k < 6) : x_r M 22 k = 24 + k := by
  rw [ge_ref h]
  rcases (show k = 0 ∨ k = 1 ∨ k = 2 ∨ k = 3 ∨ k = 4 ∨ k = 5 by omega) with rfl | rfl | rfl | rfl | rfl | rfl <;> rfl
theorem gct_24 {k : Nat} (h : Geo L b1 b2 M) (hk : k < 6) : x_tag M (24 + k) = 12 := by
  rw [ge_tag h]
  rcases (show k = 0 ∨ k = 1 ∨ k = 2 ∨ k = 3 ∨ k = 4 ∨ k = 5 by omega) with rfl | rfl | rfl | rfl | rfl | rfl <;> rfl
theorem gc_31 {k : Nat} (h : Geo L b1 b2 M) (hk : k < 6) : x_r M 31 k = 33 + k := by
  rw [ge_ref h]
  rcases (show k = 0 ∨ k = 1 ∨ k = 2 ∨ k = 3 ∨ k = 4 ∨ k = 5 by omega) with rfl | rfl | rfl | rfl | rfl | rfl <;> rfl
theorem gct_33 {k : Nat} (h : Geo L b1 b2 M) (hk : k < 6) : x_tag M (33 + k) = 12 := by
  rw [ge_tag h]
  rcases (show k = 0 ∨ k = 1 ∨ k = 2 ∨ k = 3 ∨ k = 4 ∨ k = 5 by omega) with rfl | rfl | rfl | rfl | rfl | rfl <;> rfl
theorem gc_41 {k : Nat} (h : Geo L b1 b2 M) (hk : k < 6) : x_r M 41 k = 43 + k := by
  rw [ge_ref h]
  rcases (show k = 0 ∨ k = 1 ∨ k = 2 ∨ k = 3 ∨ k = 4 ∨ k = 5 by omega) with rfl | rfl | rfl | rfl | rfl | rfl <;> rfl
theorem gct_43 {k : Nat} (h : Geo L b1 b2 M) (hk : k < 6) : x_tag M (43 + k) = 12 := by
  rw [ge_tag h]
  rcases (show k = 0 ∨ k = 1 ∨ k = 2 ∨ k = 3 ∨ k = 4 ∨ k = 5 by omega) with rfl | rfl | rfl | rfl | rfl | rfl <;> rfl
theorem gs_50 {k : Nat} (h : Geo L b1 b2 M) (hk : k < 8) : x_r M 50 k = 67 + 2 * k := by
  rw [ge_ref h]
  rcases (show k = 0 ∨ k = 1 ∨ k = 2 ∨ k = 3 ∨ k = 4 ∨ k = 5 ∨ k = 6 ∨ k = 7 by omega) with rfl | rfl | rfl | rfl | rfl | rfl | rfl | rfl <;> rfl
theorem gst_67 {k : Nat} (h : Geo L b1 b2 M) (hk : k < 8) : x_tag M (67 + 2 * k) = 16 := by
  rw [ge_tag h]
  rcases (show k = 0 ∨ k = 1 ∨ k = 2 ∨ k = 3 ∨ k = 4 ∨ k = 5 ∨ k = 6 ∨ k = 7 by omega) with rfl | rfl | rfl | rfl | rfl | rfl | rfl | rfl <;> rfl
theorem gsr_67 {k : Nat} (h : Geo L b1 b2 M) (hk : k < 8) : x_r M (67 + 2 * k) 3 = 68 + 2 * k := by
  rw [ge_ref h]
  rcases (show k = 0 ∨ k = 1 ∨ k = 2 ∨ k = 3 ∨ k = 4 ∨ k = 5 ∨ k = 6 ∨ k = 7 by omega) with rfl | rfl | rfl | rfl | rfl | rfl | rfl | rfl <;> rfl
theorem gst_68 {k : Nat} (h : Geo L b1 b2 M) (hk : k < 8) : x_tag M (68 + 2 * k) = 2 := by
  rw [ge_tag h]
  rcases (show k = 0 ∨ k = 1 ∨ k = 2 ∨ k = 3 ∨ k = 4 ∨ k = 5 ∨ k = 6 ∨ k = 7 by omega) with rfl | rfl | rfl | rfl | rfl | rfl | rfl | rfl <;> rfl
theorem gsl_68 {k : Nat} (h : Geo L b1 b2 M) (hk : k < 8) : x_len M (68 + 2 * k) = 160 := by
  rw [ge_len h]
  rcases (show k = 0 ∨ k = 1 ∨ k = 2 ∨ k = 3 ∨ k = 4 ∨ k = 5 ∨ k = 6 ∨ k = 7 by omega) with rfl | rfl | rfl | rfl | rfl | rfl | rfl | rfl <;> rfl
end
/-! reading what was written -/
theorem ii_wi (M : XM) (a k b j : Nat) (v : Int32) : x_i (x_wi M a k v) b j = if b = a ∧ j = k then v else x_i M b j := rfl
theorem ji_wi (M : XM) (a k b j : Nat) (v : Int32) : x_j (x_wi M a k v) b j = x_j M b j := rfl
theorem ri_wi (M : XM) (a k b j : Nat) (v : Int32) : x_r (x_wi M a k v) b j = x_r M b j := rfl
theorem ti_wi (M : XM) (a k b : Nat) (v : Int32) : x_tag (x_wi M a k v) b = x_tag M b := rfl
theorem li_wi (M : XM) (a k b : Nat) (v : Int32) : x_len (x_wi M a k v) b = x_len M b := rfl
theorem ii_wj (M : XM) (a k b j : Nat) (v : Int64) : x_i (x_wj M a k v) b j = x_i M b j := rfl
theorem ji_wj (M : XM) (a k b j : Nat) (v : Int64) : x_j (x_wj M a k v) b j = if b = a ∧ j = k then v else x_j M b j := rfl
theorem ri_wj (M : XM) (a k b j : Nat) (v : Int64) : x_r (x_wj M a k v) b j = x_r M b j := rfl
theorem ti_wj (M : XM) (a k b : Nat) (v : Int64) : x_tag (x_wj M a k v) b = x_tag M b := rfl
theorem li_wj (M : XM) (a k b : Nat) (v : Int64) : x_len (x_wj M a k v) b = x_len M b := rfl
theorem x_in_nI {k n : Nat} (h : k < n) (hn : n < 2 ^ 31) : x_in (nI k) n = true := by
  have h1 : ¬ nI k < 0 := nI_pos (by omega)
  simp [x_in, nI_clamp (show k < 2 ^ 31 by omega), h1, h]
theorem x_at_nI {M : XM} {a t k n : Nat} (ht : x_tag M a = t) (hl : x_len M a = n) (h : k < n) (hn : n < 2 ^ 31) : x_at M a t (nI k) = true := by
  simp [x_at, ht, hl, x_in_nI h hn]
theorem x_at_lit {M : XM} {a t : Nat} {i : Int32} (k n : Nat) (hi : i = nI k) (ht : x_tag M a = t) (hl : x_len M a = n) (h : k < n) (hn : n < 2 ^ 31) : x_at M a t i = true := by
  rw [hi]; exact x_at_nI ht hl h hn
