/-! The world behind the two constructors (printed by wip/zworld.py): shapes and references, as the constructors make them. -/
def zS0 (L : Nat) : List zSh := (9, 0, 0) :: (1, 0, L) :: (2, 0, 4) :: (2, 1, 5) :: (2, 2, 5) :: (2, 3, 5) :: (2, 4, 3) :: (2, 5, 4) :: (0, 10, 10) :: (0, 2, 2) :: (1, 0, 224) :: (0, 0, 7) :: (1, 0, 300) :: (1, 0, 300) :: (1, 0, 8700) :: (0, 9, 2) :: (1, 0, 400) :: (0, 8, 9) :: (1, 0, 20) :: (0, 7, 17) :: (1, 0, 5) :: (1, 0, 5) :: (1, 0, 5) :: (1, 0, 5) :: (1, 2, 5) :: (1, 0, 5) :: (1, 0, 5) :: (1, 0, 5) :: (1, 0, 5) :: (1, 0, 5) :: (1, 0, 3) :: (0, 4, 10) :: (1, 0, 3) :: (1, 0, 3) :: (1, 0, 3) :: (1, 1, 0) :: (0, 6, 8) :: (1, 4, 25) :: (1, 0, 31) :: (1, 0, 31) :: (1, 0, 31) :: (1, 0, 31) :: (1, 0, 31) :: (1, 0, 31) :: (1, 0, 31) :: (1, 0, 31) :: (1, 0, 31) :: (1, 0, 31) :: (1, 0, 31) :: (1, 0, 31) :: (1, 0, 31) :: (1, 0, 31) :: (1, 0, 31) :: (1, 0, 31) :: (1, 0, 31) :: (1, 0, 31) :: (1, 0, 31) :: (1, 0, 31) :: (1, 0, 31) :: (1, 0, 31) :: (1, 0, 31) :: (1, 0, 31) :: (1, 0, 31) :: (1, 0, 31) :: (0, 1, 10) :: (1, 0, 9) :: (1, 0, 9) :: (0, 5, 7) :: (1, 5, 11) :: (1, 3, 20) :: (1, 3, 20) :: (1, 3, 20) :: (1, 3, 20) :: (1, 3, 20) :: (1, 3, 20) :: (1, 3, 20) :: (1, 3, 20) :: (1, 3, 20) :: (1, 3, 20) :: (1, 3, 20) :: (1, 3, 11) :: (0, 3, 1) :: (0, 11, 42) :: (1, 1, 420) :: (1, 1, 400) :: (1, 0, 224) :: (1, 0, 224) :: (1, 0, 7200) :: (1, 0, 24) :: (1, 3, 16) :: (1, 3, 6) :: (1, 3, 4) :: (1, 3, 4) :: (1, 0, 4) :: (1, 0, 4) :: (1, 0, 40131) :: (1, 0, 7) :: (1, 0, 3) :: (1, 0, 3) :: (1, 0, 800) :: (1, 0, 9) :: (1, 0, 9) :: (1, 3, 22) :: (1, 3, 22) :: []
def zRa0 : Nat → Nat → Nat := fun _ _ => 0
def zRa1 : Nat → Nat → Nat := (zu (zo (zu (zo (zu (zo (zo (zu (zu (zo (zo (zo zRa0 8 (fun _ => 0)) 9 (fun _ => 0)) 10 (fun _ => 0)) 9 0 10) 8 0 9) 11 (fun _ => 0)) 12 (fun _ => 0)) 11 1 12) 13 (fun _ => 0)) 11 2 13) 14 (fun _ => 0)) 11 3 14)
def zRa2 : Nat → Nat → Nat := (zo (zu (zu (zu (zo (zo (zu (zu (zo (zo (zu (zu zRa1 11 0 9) 8 1 11) 15 (fun _ => 0)) 16 (fun _ => 0)) 15 0 16) 8 2 15) 17 (fun _ => 0)) 18 (fun _ => 0)) 17 1 18) 17 0 15) 8 3 17) 19 (fun _ => 0))
def zRa3 : Nat → Nat → Nat := (zu (zo (zu (zo (zu (zo (zu (zo (zu (zo (zu (zo zRa2 20 (fun _ => 0)) 19 1 20) 21 (fun _ => 0)) 19 2 21) 22 (fun _ => 0)) 19 3 22) 23 (fun _ => 0)) 19 4 23) 24 (fun _ => 0)) 19 5 24) 25 (fun _ => 0)) 19 6 25)
def zRa4 : Nat → Nat → Nat := (zu (zu (zu (zo (zu (zo (zu (zo (zu (zo (zu (zo zRa3 26 (fun _ => 0)) 19 7 26) 27 (fun _ => 0)) 19 8 27) 28 (fun _ => 0)) 19 9 28) 29 (fun _ => 0)) 19 10 29) 30 (fun _ => 0)) 19 11 30) 19 0 9) 8 4 19)
def zRa5 : Nat → Nat → Nat := (zo (zu (zu (zu (zo (zu (zo (zu (zo (zu (zo (zo zRa4 31 (fun _ => 0)) 32 (fun _ => 0)) 31 1 32) 33 (fun _ => 0)) 31 2 33) 34 (fun _ => 0)) 31 3 34) 35 (fun _ => 0)) 31 4 35) 31 0 9) 8 5 31) 36 (fun _ => 0))
def zRa6 : Nat → Nat → Nat := (zu (zu (zo (zu (zo (zo (zu (zu (zu (zo (zu (fun q => if 37 ≤ q then (fun j => if q = 37 then q + 1 + j else 0) else zRa5 q) 36 1 37) 63 (fun _ => 0)) 36 2 63) 36 0 9) 8 6 36) 64 (fun _ => 0)) 65 (fun _ => 0)) 64 1 65) 66 (fun _ => 0)) 64 2 66) 64 0 9)
def zRa7 : Nat → Nat → Nat := (zo (zu (zu (zo (zu (zu (zu (zo (zu (fun q => if 68 ≤ q then (fun j => if q = 68 then q + 1 + j else 0) else (zo (zu zRa6 8 7 64) 67 (fun _ => 0)) q) 67 1 68) 80 (fun _ => 0)) 67 2 80) 67 0 9) 8 8 67) 81 (fun _ => 0)) 81 0 9) 8 9 81) 82 (fun _ => 0))
def zRa8 : Nat → Nat → Nat := (zu (zo (zu (zo (zu (zo (zu (zo (zu (zo (zu (zo zRa7 83 (fun _ => 0)) 82 0 83) 84 (fun _ => 0)) 82 1 84) 85 (fun _ => 0)) 82 11 85) 86 (fun _ => 0)) 82 12 86) 87 (fun _ => 0)) 82 13 87) 88 (fun _ => 0)) 82 14 88)
def zRa9 : Nat → Nat → Nat := (zu (zo (zu (zo (zu (zo (zu (zo (zu (zo (zu (zo zRa8 89 (fun _ => 0)) 82 17 89) 90 (fun _ => 0)) 82 18 90) 91 (fun _ => 0)) 82 19 91) 92 (fun _ => 0)) 82 20 92) 93 (fun _ => 0)) 82 21 93) 94 (fun _ => 0)) 82 23 94)
def zRa10 : Nat → Nat → Nat := (zu (zo (zu (zo (zu (zo (zu (zo (zu (zo (zu (zo zRa9 95 (fun _ => 0)) 82 24 95) 96 (fun _ => 0)) 82 25 96) 97 (fun _ => 0)) 82 26 97) 98 (fun _ => 0)) 82 27 98) 99 (fun _ => 0)) 82 35 99) 100 (fun _ => 0)) 82 37 100)
def zR0 : Nat → Nat → Nat := (zu (zo (zu (zo (zu (zo zRa10 101 (fun _ => 0)) 82 38 101) 102 (fun _ => 0)) 82 40 102) 103 (fun _ => 0)) 82 41 103)
def zWd (L : Nat) (b : Bool) : zW := match b with
  | false => (zS0 L, zR0)
  | true => (zS0 L ++ [(1, 1, 32928)], zu (zo zR0 104 (fun _ => 0)) 31 4 104)
theorem zs_1 (L : Nat) (b : Bool) : zsh (zWd L b) 1 = (1, 0, L) := by cases b <;> rfl
theorem zs_2 (L : Nat) (b : Bool) : zsh (zWd L b) 2 = (2, 0, 4) := by cases b <;> rfl
theorem zs_3 (L : Nat) (b : Bool) : zsh (zWd L b) 3 = (2, 1, 5) := by cases b <;> rfl
theorem zs_4 (L : Nat) (b : Bool) : zsh (zWd L b) 4 = (2, 2, 5) := by cases b <;> rfl
theorem zs_5 (L : Nat) (b : Bool) : zsh (zWd L b) 5 = (2, 3, 5) := by cases b <;> rfl
theorem zs_6 (L : Nat) (b : Bool) : zsh (zWd L b) 6 = (2, 4, 3) := by cases b <;> rfl
theorem zs_7 (L : Nat) (b : Bool) : zsh (zWd L b) 7 = (2, 5, 4) := by cases b <;> rfl
theorem zs_8 (L : Nat) (b : Bool) : zsh (zWd L b) 8 = (0, 10, 10) := by cases b <;> rfl
theorem zs_9 (L : Nat) (b : Bool) : zsh (zWd L b) 9 = (0, 2, 2) := by cases b <;> rfl
theorem zs_10 (L : Nat) (b : Bool) : zsh (zWd L b) 10 = (1, 0, 224) := by cases b <;> rfl
theorem zs_11 (L : Nat) (b : Bool) : zsh (zWd L b) 11 = (0, 0, 7) := by cases b <;> rfl
theorem zs_12 (L : Nat) (b : Bool) : zsh (zWd L b) 12 = (1, 0, 300) := by cases b <;> rfl
theorem zs_13 (L : Nat) (b : Bool) : zsh (zWd L b) 13 = (1, 0, 300) := by cases b <;> rfl
theorem zs_14 (L : Nat) (b : Bool) : zsh (zWd L b) 14 = (1, 0, 8700) := by cases b <;> rfl
theorem zs_15 (L : Nat) (b : Bool) : zsh (zWd L b) 15 = (0, 9, 2) := by cases b <;> rfl
theorem zs_16 (L : Nat) (b : Bool) : zsh (zWd L b) 16 = (1, 0, 400) := by cases b <;> rfl
theorem zs_17 (L : Nat) (b : Bool) : zsh (zWd L b) 17 = (0, 8, 9) := by cases b <;> rfl
theorem zs_18 (L : Nat) (b : Bool) : zsh (zWd L b) 18 = (1, 0, 20) := by cases b <;> rfl
theorem zs_19 (L : Nat) (b : Bool) : zsh (zWd L b) 19 = (0, 7, 17) := by cases b <;> rfl
theorem zs_20 (L : Nat) (b : Bool) : zsh (zWd L b) 20 = (1, 0, 5) := by cases b <;> rfl
theorem zs_21 (L : Nat) (b : Bool) : zsh (zWd L b) 21 = (1, 0, 5) := by cases b <;> rfl
theorem zs_22 (L : Nat) (b : Bool) : zsh (zWd L b) 22 = (1, 0, 5) := by cases b <;> rfl
theorem zs_23 (L : Nat) (b : Bool) : zsh (zWd L b) 23 = (1, 0, 5) := by cases b <;> rfl
theorem zs_24 (L : Nat) (b : Bool) : zsh (zWd L b) 24 = (1, 2, 5) := by cases b <;> rfl
theorem zs_25 (L : Nat) (b : Bool) : zsh (zWd L b) 25 = (1, 0, 5) := by cases b <;> rfl
theorem zs_26 (L : Nat) (b : Bool) : zsh (zWd L b) 26 = (1, 0, 5) := by cases b <;> rfl
theorem zs_27 (L : Nat) (b : Bool) : zsh (zWd L b) 27 = (1, 0, 5) := by cases b <;> rfl
theorem zs_28 (L : Nat) (b : Bool) : zsh (zWd L b) 28 = (1, 0, 5) := by cases b <;> rfl
theorem zs_29 (L : Nat) (b : Bool) : zsh (zWd L b) 29 = (1, 0, 5) := by cases b <;> rfl
theorem zs_30 (L : Nat) (b : Bool) : zsh (zWd L b) 30 = (1, 0, 3) := by cases b <;> rfl
theorem zs_31 (L : Nat) (b : Bool) : zsh (zWd L b) 31 = (0, 4, 10) := by cases b <;> rfl
theorem zs_32 (L : Nat) (b : Bool) : zsh (zWd L b) 32 = (1, 0, 3) := by cases b <;> rfl
theorem zs_33 (L : Nat) (b : Bool) : zsh (zWd L b) 33 = (1, 0, 3) := by cases b <;> rfl
theorem zs_34 (L : Nat) (b : Bool) : zsh (zWd L b) 34 = (1, 0, 3) := by cases b <;> rfl
theorem zs_35 (L : Nat) (b : Bool) : zsh (zWd L b) 35 = (1, 1, 0) := by cases b <;> rfl
theorem zs_36 (L : Nat) (b : Bool) : zsh (zWd L b) 36 = (0, 6, 8) := by cases b <;> rfl
theorem zs_37 (L : Nat) (b : Bool) : zsh (zWd L b) 37 = (1, 4, 25) := by cases b <;> rfl
theorem zs_38 (L : Nat) (b : Bool) : zsh (zWd L b) 38 = (1, 0, 31) := by cases b <;> rfl
theorem zs_39 (L : Nat) (b : Bool) : zsh (zWd L b) 39 = (1, 0, 31) := by cases b <;> rfl
theorem zs_40 (L : Nat) (b : Bool) : zsh (zWd L b) 40 = (1, 0, 31) := by cases b <;> rfl
theorem zs_41 (L : Nat) (b : Bool) : zsh (zWd L b) 41 = (1, 0, 31) := by cases b <;> rfl
theorem zs_42 (L : Nat) (b : Bool) : zsh (zWd L b) 42 = (1, 0, 31) := by cases b <;> rfl
theorem zs_43 (L : Nat) (b : Bool) : zsh (zWd L b) 43 = (1, 0, 31) := by cases b <;> rfl
theorem zs_44 (L : Nat) (b : Bool) : zsh (zWd L b) 44 = (1, 0, 31) := by cases b <;> rfl
theorem zs_45 (L : Nat) (b : Bool) : zsh (zWd L b) 45 = (1, 0, 31) := by cases b <;> rfl
theorem zs_46 (L : Nat) (b : Bool) : zsh (zWd L b) 46 = (1, 0, 31) := by cases b <;> rfl
theorem zs_47 (L : Nat) (b : Bool) : zsh (zWd L b) 47 = (1, 0, 31) := by cases b <;> rfl
theorem zs_48 (L : Nat) (b : Bool) : zsh (zWd L b) 48 = (1, 0, 31) := by cases b <;> rfl
theorem zs_49 (L : Nat) (b : Bool) : zsh (zWd L b) 49 = (1, 0, 31) := by cases b <;> rfl
theorem zs_50 (L : Nat) (b : Bool) : zsh (zWd L b) 50 = (1, 0, 31) := by cases b <;> rfl
theorem zs_51 (L : Nat) (b : Bool) : zsh (zWd L b) 51 = (1, 0, 31) := by cases b <;> rfl
theorem zs_52 (L : Nat) (b : Bool) : zsh (zWd L b) 52 = (1, 0, 31) := by cases b <;> rfl
theorem zs_53 (L : Nat) (b : Bool) : zsh (zWd L b) 53 = (1, 0, 31) := by cases b <;> rfl
theorem zs_54 (L : Nat) (b : Bool) : zsh (zWd L b) 54 = (1, 0, 31) := by cases b <;> rfl
theorem zs_55 (L : Nat) (b : Bool) : zsh (zWd L b) 55 = (1, 0, 31) := by cases b <;> rfl
theorem zs_56 (L : Nat) (b : Bool) : zsh (zWd L b) 56 = (1, 0, 31) := by cases b <;> rfl
theorem zs_57 (L : Nat) (b : Bool) : zsh (zWd L b) 57 = (1, 0, 31) := by cases b <;> rfl
theorem zs_58 (L : Nat) (b : Bool) : zsh (zWd L b) 58 = (1, 0, 31) := by cases b <;> rfl
theorem zs_59 (L : Nat) (b : Bool) : zsh (zWd L b) 59 = (1, 0, 31) := by cases b <;> rfl
theorem zs_60 (L : Nat) (b : Bool) : zsh (zWd L b) 60 = (1, 0, 31) := by cases b <;> rfl
theorem zs_61 (L : Nat) (b : Bool) : zsh (zWd L b) 61 = (1, 0, 31) := by cases b <;> rfl
theorem zs_62 (L : Nat) (b : Bool) : zsh (zWd L b) 62 = (1, 0, 31) := by cases b <;> rfl
theorem zs_63 (L : Nat) (b : Bool) : zsh (zWd L b) 63 = (1, 0, 31) := by cases b <;> rfl
theorem zs_64 (L : Nat) (b : Bool) : zsh (zWd L b) 64 = (0, 1, 10) := by cases b <;> rfl
theorem zs_65 (L : Nat) (b : Bool) : zsh (zWd L b) 65 = (1, 0, 9) := by cases b <;> rfl
theorem zs_66 (L : Nat) (b : Bool) : zsh (zWd L b) 66 = (1, 0, 9) := by cases b <;> rfl
theorem zs_67 (L : Nat) (b : Bool) : zsh (zWd L b) 67 = (0, 5, 7) := by cases b <;> rfl
theorem zs_68 (L : Nat) (b : Bool) : zsh (zWd L b) 68 = (1, 5, 11) := by cases b <;> rfl
theorem zs_69 (L : Nat) (b : Bool) : zsh (zWd L b) 69 = (1, 3, 20) := by cases b <;> rfl
theorem zs_70 (L : Nat) (b : Bool) : zsh (zWd L b) 70 = (1, 3, 20) := by cases b <;> rfl
theorem zs_71 (L : Nat) (b : Bool) : zsh (zWd L b) 71 = (1, 3, 20) := by cases b <;> rfl
theorem zs_72 (L : Nat) (b : Bool) : zsh (zWd L b) 72 = (1, 3, 20) := by cases b <;> rfl
theorem zs_73 (L : Nat) (b : Bool) : zsh (zWd L b) 73 = (1, 3, 20) := by cases b <;> rfl
theorem zs_74 (L : Nat) (b : Bool) : zsh (zWd L b) 74 = (1, 3, 20) := by cases b <;> rfl
theorem zs_75 (L : Nat) (b : Bool) : zsh (zWd L b) 75 = (1, 3, 20) := by cases b <;> rfl
theorem zs_76 (L : Nat) (b : Bool) : zsh (zWd L b) 76 = (1, 3, 20) := by cases b <;> rfl
theorem zs_77 (L : Nat) (b : Bool) : zsh (zWd L b) 77 = (1, 3, 20) := by cases b <;> rfl
theorem zs_78 (L : Nat) (b : Bool) : zsh (zWd L b) 78 = (1, 3, 20) := by cases b <;> rfl
theorem zs_79 (L : Nat) (b : Bool) : zsh (zWd L b) 79 = (1, 3, 20) := by cases b <;> rfl
theorem zs_80 (L : Nat) (b : Bool) : zsh (zWd L b) 80 = (1, 3, 11) := by cases b <;> rfl
theorem zs_81 (L : Nat) (b : Bool) : zsh (zWd L b) 81 = (0, 3, 1) := by cases b <;> rfl
theorem zs_82 (L : Nat) (b : Bool) : zsh (zWd L b) 82 = (0, 11, 42) := by cases b <;> rfl
theorem zs_83 (L : Nat) (b : Bool) : zsh (zWd L b) 83 = (1, 1, 420) := by cases b <;> rfl
theorem zs_84 (L : Nat) (b : Bool) : zsh (zWd L b) 84 = (1, 1, 400) := by cases b <;> rfl
theorem zs_85 (L : Nat) (b : Bool) : zsh (zWd L b) 85 = (1, 0, 224) := by cases b <;> rfl
theorem zs_86 (L : Nat) (b : Bool) : zsh (zWd L b) 86 = (1, 0, 224) := by cases b <;> rfl
theorem zs_87 (L : Nat) (b : Bool) : zsh (zWd L b) 87 = (1, 0, 7200) := by cases b <;> rfl
theorem zs_88 (L : Nat) (b : Bool) : zsh (zWd L b) 88 = (1, 0, 24) := by cases b <;> rfl
theorem zs_89 (L : Nat) (b : Bool) : zsh (zWd L b) 89 = (1, 3, 16) := by cases b <;> rfl
theorem zs_90 (L : Nat) (b : Bool) : zsh (zWd L b) 90 = (1, 3, 6) := by cases b <;> rfl
theorem zs_91 (L : Nat) (b : Bool) : zsh (zWd L b) 91 = (1, 3, 4) := by cases b <;> rfl
theorem zs_92 (L : Nat) (b : Bool) : zsh (zWd L b) 92 = (1, 3, 4) := by cases b <;> rfl
theorem zs_93 (L : Nat) (b : Bool) : zsh (zWd L b) 93 = (1, 0, 4) := by cases b <;> rfl
theorem zs_94 (L : Nat) (b : Bool) : zsh (zWd L b) 94 = (1, 0, 4) := by cases b <;> rfl
theorem zs_95 (L : Nat) (b : Bool) : zsh (zWd L b) 95 = (1, 0, 40131) := by cases b <;> rfl
theorem zs_96 (L : Nat) (b : Bool) : zsh (zWd L b) 96 = (1, 0, 7) := by cases b <;> rfl
theorem zs_97 (L : Nat) (b : Bool) : zsh (zWd L b) 97 = (1, 0, 3) := by cases b <;> rfl
theorem zs_98 (L : Nat) (b : Bool) : zsh (zWd L b) 98 = (1, 0, 3) := by cases b <;> rfl
theorem zs_99 (L : Nat) (b : Bool) : zsh (zWd L b) 99 = (1, 0, 800) := by cases b <;> rfl
theorem zs_100 (L : Nat) (b : Bool) : zsh (zWd L b) 100 = (1, 0, 9) := by cases b <;> rfl
theorem zs_101 (L : Nat) (b : Bool) : zsh (zWd L b) 101 = (1, 0, 9) := by cases b <;> rfl
theorem zs_102 (L : Nat) (b : Bool) : zsh (zWd L b) 102 = (1, 3, 22) := by cases b <;> rfl
theorem zs_103 (L : Nat) (b : Bool) : zsh (zWd L b) 103 = (1, 3, 22) := by cases b <;> rfl
theorem zs_104 (L : Nat) : zsh (zWd L true) 104 = (1, 1, 32928) := rfl
theorem zr_8_0 (L : Nat) (b : Bool) : (zWd L b).2 8 0 = 9 := by cases b <;> rfl
theorem zr_8_1 (L : Nat) (b : Bool) : (zWd L b).2 8 1 = 11 := by cases b <;> rfl
theorem zr_8_2 (L : Nat) (b : Bool) : (zWd L b).2 8 2 = 15 := by cases b <;> rfl
theorem zr_8_3 (L : Nat) (b : Bool) : (zWd L b).2 8 3 = 17 := by cases b <;> rfl
theorem zr_8_4 (L : Nat) (b : Bool) : (zWd L b).2 8 4 = 19 := by cases b <;> rfl
theorem zr_8_5 (L : Nat) (b : Bool) : (zWd L b).2 8 5 = 31 := by cases b <;> rfl
theorem zr_8_6 (L : Nat) (b : Bool) : (zWd L b).2 8 6 = 36 := by cases b <;> rfl
theorem zr_8_7 (L : Nat) (b : Bool) : (zWd L b).2 8 7 = 64 := by cases b <;> rfl
theorem zr_8_8 (L : Nat) (b : Bool) : (zWd L b).2 8 8 = 67 := by cases b <;> rfl
theorem zr_8_9 (L : Nat) (b : Bool) : (zWd L b).2 8 9 = 81 := by cases b <;> rfl
theorem zr_9_0 (L : Nat) (b : Bool) : (zWd L b).2 9 0 = 10 := by cases b <;> rfl
theorem zr_11_0 (L : Nat) (b : Bool) : (zWd L b).2 11 0 = 9 := by cases b <;> rfl
theorem zr_11_1 (L : Nat) (b : Bool) : (zWd L b).2 11 1 = 12 := by cases b <;> rfl
theorem zr_11_2 (L : Nat) (b : Bool) : (zWd L b).2 11 2 = 13 := by cases b <;> rfl
theorem zr_11_3 (L : Nat) (b : Bool) : (zWd L b).2 11 3 = 14 := by cases b <;> rfl
theorem zr_15_0 (L : Nat) (b : Bool) : (zWd L b).2 15 0 = 16 := by cases b <;> rfl
theorem zr_17_0 (L : Nat) (b : Bool) : (zWd L b).2 17 0 = 15 := by cases b <;> rfl
theorem zr_17_1 (L : Nat) (b : Bool) : (zWd L b).2 17 1 = 18 := by cases b <;> rfl
theorem zr_19_0 (L : Nat) (b : Bool) : (zWd L b).2 19 0 = 9 := by cases b <;> rfl
theorem zr_19_1 (L : Nat) (b : Bool) : (zWd L b).2 19 1 = 20 := by cases b <;> rfl
theorem zr_19_2 (L : Nat) (b : Bool) : (zWd L b).2 19 2 = 21 := by cases b <;> rfl
theorem zr_19_3 (L : Nat) (b : Bool) : (zWd L b).2 19 3 = 22 := by cases b <;> rfl
theorem zr_19_4 (L : Nat) (b : Bool) : (zWd L b).2 19 4 = 23 := by cases b <;> rfl
theorem zr_19_5 (L : Nat) (b : Bool) : (zWd L b).2 19 5 = 24 := by cases b <;> rfl
theorem zr_19_6 (L : Nat) (b : Bool) : (zWd L b).2 19 6 = 25 := by cases b <;> rfl
theorem zr_19_7 (L : Nat) (b : Bool) : (zWd L b).2 19 7 = 26 := by cases b <;> rfl
theorem zr_19_8 (L : Nat) (b : Bool) : (zWd L b).2 19 8 = 27 := by cases b <;> rfl
theorem zr_19_9 (L : Nat) (b : Bool) : (zWd L b).2 19 9 = 28 := by cases b <;> rfl
theorem zr_19_10 (L : Nat) (b : Bool) : (zWd L b).2 19 10 = 29 := by cases b <;> rfl
theorem zr_19_11 (L : Nat) (b : Bool) : (zWd L b).2 19 11 = 30 := by cases b <;> rfl
theorem zr_31_0 (L : Nat) (b : Bool) : (zWd L b).2 31 0 = 9 := by cases b <;> rfl
theorem zr_31_1 (L : Nat) (b : Bool) : (zWd L b).2 31 1 = 32 := by cases b <;> rfl
theorem zr_31_2 (L : Nat) (b : Bool) : (zWd L b).2 31 2 = 33 := by cases b <;> rfl
theorem zr_31_3 (L : Nat) (b : Bool) : (zWd L b).2 31 3 = 34 := by cases b <;> rfl
theorem zr_36_0 (L : Nat) (b : Bool) : (zWd L b).2 36 0 = 9 := by cases b <;> rfl
theorem zr_36_1 (L : Nat) (b : Bool) : (zWd L b).2 36 1 = 37 := by cases b <;> rfl
theorem zr_36_2 (L : Nat) (b : Bool) : (zWd L b).2 36 2 = 63 := by cases b <;> rfl
theorem zr_64_0 (L : Nat) (b : Bool) : (zWd L b).2 64 0 = 9 := by cases b <;> rfl
theorem zr_64_1 (L : Nat) (b : Bool) : (zWd L b).2 64 1 = 65 := by cases b <;> rfl
theorem zr_64_2 (L : Nat) (b : Bool) : (zWd L b).2 64 2 = 66 := by cases b <;> rfl
theorem zr_67_0 (L : Nat) (b : Bool) : (zWd L b).2 67 0 = 9 := by cases b <;> rfl
theorem zr_67_1 (L : Nat) (b : Bool) : (zWd L b).2 67 1 = 68 := by cases b <;> rfl
theorem zr_67_2 (L : Nat) (b : Bool) : (zWd L b).2 67 2 = 80 := by cases b <;> rfl
theorem zr_81_0 (L : Nat) (b : Bool) : (zWd L b).2 81 0 = 9 := by cases b <;> rfl
theorem zr_82_0 (L : Nat) (b : Bool) : (zWd L b).2 82 0 = 83 := by cases b <;> rfl
theorem zr_82_1 (L : Nat) (b : Bool) : (zWd L b).2 82 1 = 84 := by cases b <;> rfl
theorem zr_82_11 (L : Nat) (b : Bool) : (zWd L b).2 82 11 = 85 := by cases b <;> rfl
theorem zr_82_12 (L : Nat) (b : Bool) : (zWd L b).2 82 12 = 86 := by cases b <;> rfl
theorem zr_82_13 (L : Nat) (b : Bool) : (zWd L b).2 82 13 = 87 := by cases b <;> rfl
theorem zr_82_14 (L : Nat) (b : Bool) : (zWd L b).2 82 14 = 88 := by cases b <;> rfl
theorem zr_82_17 (L : Nat) (b : Bool) : (zWd L b).2 82 17 = 89 := by cases b <;> rfl
theorem zr_82_18 (L : Nat) (b : Bool) : (zWd L b).2 82 18 = 90 := by cases b <;> rfl
theorem zr_82_19 (L : Nat) (b : Bool) : (zWd L b).2 82 19 = 91 := by cases b <;> rfl
theorem zr_82_20 (L : Nat) (b : Bool) : (zWd L b).2 82 20 = 92 := by cases b <;> rfl
theorem zr_82_21 (L : Nat) (b : Bool) : (zWd L b).2 82 21 = 93 := by cases b <;> rfl
theorem zr_82_23 (L : Nat) (b : Bool) : (zWd L b).2 82 23 = 94 := by cases b <;> rfl
theorem zr_82_24 (L : Nat) (b : Bool) : (zWd L b).2 82 24 = 95 := by cases b <;> rfl
theorem zr_82_25 (L : Nat) (b : Bool) : (zWd L b).2 82 25 = 96 := by cases b <;> rfl
theorem zr_82_26 (L : Nat) (b : Bool) : (zWd L b).2 82 26 = 97 := by cases b <;> rfl
theorem zr_82_27 (L : Nat) (b : Bool) : (zWd L b).2 82 27 = 98 := by cases b <;> rfl
theorem zr_82_35 (L : Nat) (b : Bool) : (zWd L b).2 82 35 = 99 := by cases b <;> rfl
theorem zr_82_37 (L : Nat) (b : Bool) : (zWd L b).2 82 37 = 100 := by cases b <;> rfl
theorem zr_82_38 (L : Nat) (b : Bool) : (zWd L b).2 82 38 = 101 := by cases b <;> rfl
theorem zr_82_40 (L : Nat) (b : Bool) : (zWd L b).2 82 40 = 102 := by cases b <;> rfl
theorem zr_82_41 (L : Nat) (b : Bool) : (zWd L b).2 82 41 = 103 := by cases b <;> rfl
theorem zr_31_4 (L : Nat) : (zWd L false).2 31 4 = 35 := rfl
theorem zr_31_4t (L : Nat) : (zWd L true).2 31 4 = 104 := rfl
theorem zr_37 (L : Nat) (b : Bool) (j : Nat) : (zWd L b).2 37 j = 38 + j := by cases b <;> rfl
theorem zr_68 (L : Nat) (b : Bool) (j : Nat) : (zWd L b).2 68 j = 69 + j := by cases b <;> rfl
theorem zs_row37 (L : Nat) (b : Bool) {j : Nat} (h : j < 25) : zsh (zWd L b) (38 + j) = (1, 0, 31) := by
  match j, h with
  | 0, _ => exact zs_38 L b
  | 1, _ => exact zs_39 L b
  | 2, _ => exact zs_40 L b
  | 3, _ => exact zs_41 L b
  | 4, _ => exact zs_42 L b
  | 5, _ => exact zs_43 L b
  | 6, _ => exact zs_44 L b
  | 7, _ => exact zs_45 L b
  | 8, _ => exact zs_46 L b
  | 9, _ => exact zs_47 L b
  | 10, _ => exact zs_48 L b
  | 11, _ => exact zs_49 L b
  | 12, _ => exact zs_50 L b
  | 13, _ => exact zs_51 L b
  | 14, _ => exact zs_52 L b
  | 15, _ => exact zs_53 L b
  | 16, _ => exact zs_54 L b
  | 17, _ => exact zs_55 L b
  | 18, _ => exact zs_56 L b
  | 19, _ => exact zs_57 L b
  | 20, _ => exact zs_58 L b
  | 21, _ => exact zs_59 L b
  | 22, _ => exact zs_60 L b
  | 23, _ => exact zs_61 L b
  | 24, _ => exact zs_62 L b
  | n + 25, h => omega
theorem zs_row68 (L : Nat) (b : Bool) {j : Nat} (h : j < 11) : zsh (zWd L b) (69 + j) = (1, 3, 20) := by
  match j, h with
  | 0, _ => exact zs_69 L b
  | 1, _ => exact zs_70 L b
  | 2, _ => exact zs_71 L b
  | 3, _ => exact zs_72 L b
  | 4, _ => exact zs_73 L b
  | 5, _ => exact zs_74 L b
  | 6, _ => exact zs_75 L b
  | 7, _ => exact zs_76 L b
  | 8, _ => exact zs_77 L b
  | 9, _ => exact zs_78 L b
  | 10, _ => exact zs_79 L b
  | n + 11, h => omega
