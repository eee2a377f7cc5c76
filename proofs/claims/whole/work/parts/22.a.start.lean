/-! ===== the constructors, on the empty memory (laid by gen/start.py) ===== -/
abbrev zI : Nat → Nat → Int32 := fun _ _ => 0
abbrev zJ : Nat → Nat → Int64 := fun _ _ => 0
abbrev zD : Nat → Nat → UInt64 := fun _ _ => 0
abbrev zR : Nat → Nat → Option Nat := fun _ _ => none
def kk1 : Nat → Nat := u1 kd0 4 12
def ll1 : Nat → Nat := (fun _ => 0)
def sg1 : Shp := ((1, 20), kk1, ll1)
def kk2 : Nat → Nat := u1 kk1 5 8
def ll2 : Nat → Nat := ll1
def sg2 : Shp := ((2, 34), kk2, ll2)
def kk3 : Nat → Nat := u1 kk2 6 26
def ll3 : Nat → Nat := u1 ll2 6 16
def sg3 : Shp := ((3, 50), kk3, ll3)
def mr1 : Nat → Nat → Option Nat := u2 zR 5 0 (some 6)
def kk4 : Nat → Nat := u1 kk3 7 1
def ll4 : Nat → Nat := ll3
def sg4 : Shp := ((4, 53), kk4, ll4)
def kk5 : Nat → Nat := u1 kk4 8 20
def ll5 : Nat → Nat := u1 ll4 8 128
def sg5 : Shp := ((5, 181), kk5, ll5)
def mr2 : Nat → Nat → Option Nat := u2 mr1 7 0 (some 8)
def mr3 : Nat → Nat → Option Nat := u2 mr2 5 1 (some 7)
def kk6 : Nat → Nat := u1 kk5 9 7
def ll6 : Nat → Nat := ll5
def sg6 : Shp := ((6, 188), kk6, ll6)
def kk7 : Nat → Nat := u1 kk6 10 20
def ll7 : Nat → Nat := u1 ll6 10 4
def sg7 : Shp := ((7, 192), kk7, ll7)
def mr4 : Nat → Nat → Option Nat := u2 mr3 9 0 (some 10)
def kk8 : Nat → Nat := u1 kk7 11 20
def ll8 : Nat → Nat := u1 ll7 11 160
def sg8 : Shp := ((8, 352), kk8, ll8)
def mr5 : Nat → Nat → Option Nat := u2 mr4 9 1 (some 11)
def kk9 : Nat → Nat := u1 kk8 12 20
def ll9 : Nat → Nat := u1 ll8 12 160
def sg9 : Shp := ((9, 512), kk9, ll9)
def mr6 : Nat → Nat → Option Nat := u2 mr5 9 2 (some 12)
def kk10 : Nat → Nat := u1 kk9 13 20
def ll10 : Nat → Nat := u1 ll9 13 160
def sg10 : Shp := ((10, 672), kk10, ll10)
def mr7 : Nat → Nat → Option Nat := u2 mr6 9 3 (some 13)
def kk11 : Nat → Nat := u1 kk10 14 20
def ll11 : Nat → Nat := u1 ll10 14 160
def sg11 : Shp := ((11, 832), kk11, ll11)
def mr8 : Nat → Nat → Option Nat := u2 mr7 9 4 (some 14)
def kk12 : Nat → Nat := u1 kk11 15 20
def ll12 : Nat → Nat := u1 ll11 15 160
def sg12 : Shp := ((12, 992), kk12, ll12)
def mr9 : Nat → Nat → Option Nat := u2 mr8 9 5 (some 15)
def kk13 : Nat → Nat := u1 kk12 16 20
def ll13 : Nat → Nat := u1 ll12 16 40
def sg13 : Shp := ((13, 1032), kk13, ll13)
def mr10 : Nat → Nat → Option Nat := u2 mr9 9 6 (some 16)
def mr11 : Nat → Nat → Option Nat := u2 mr10 5 2 (some 9)
def kk14 : Nat → Nat := u1 kk13 17 9
def ll14 : Nat → Nat := ll13
def sg14 : Shp := ((14, 1039), kk14, ll14)
def kk15 : Nat → Nat := u1 kk14 18 21
def ll15 : Nat → Nat := u1 ll14 18 6
def sg15 : Shp := ((15, 1045), kk15, ll15)
def mr12 : Nat → Nat → Option Nat := u2 mr11 17 0 (some 18)
def kk16 : Nat → Nat := u1 kk15 19 20
def ll16 : Nat → Nat := u1 ll15 19 3
def sg16 : Shp := ((16, 1048), kk16, ll16)
def mr13 : Nat → Nat → Option Nat := u2 mr12 17 1 (some 19)
def kk17 : Nat → Nat := u1 kk16 20 20
def ll17 : Nat → Nat := u1 ll16 20 3
def sg17 : Shp := ((17, 1051), kk17, ll17)
def mr14 : Nat → Nat → Option Nat := u2 mr13 17 2 (some 20)
def kk18 : Nat → Nat := u1 kk17 21 26
def ll18 : Nat → Nat := u1 ll17 21 640
def sg18 : Shp := ((18, 1691), kk18, ll18)
def mr15 : Nat → Nat → Option Nat := u2 mr14 17 3 (some 21)
def kk19 : Nat → Nat := u1 kk18 22 20
def ll19 : Nat → Nat := u1 ll18 22 640
def sg19 : Shp := ((19, 2331), kk19, ll19)
def mr16 : Nat → Nat → Option Nat := u2 mr15 17 4 (some 22)
def kk20 : Nat → Nat := u1 kk19 23 21
def ll20 : Nat → Nat := u1 ll19 23 640
def sg20 : Shp := ((20, 2971), kk20, ll20)
def mr17 : Nat → Nat → Option Nat := u2 mr16 17 5 (some 23)
def mr18 : Nat → Nat → Option Nat := u2 mr17 5 3 (some 17)
def kk21 : Nat → Nat := u1 kk20 24 27
def ll21 : Nat → Nat := u1 ll20 24 160
def sg21 : Shp := ((21, 3131), kk21, ll21)
def mr19 : Nat → Nat → Option Nat := u2 mr18 5 4 (some 24)
def kk22 : Nat → Nat := u1 kk21 25 20
def ll22 : Nat → Nat := u1 ll21 25 6
def sg22 : Shp := ((22, 3137), kk22, ll22)
def mr20 : Nat → Nat → Option Nat := u2 mr19 5 5 (some 25)
def mr21 : Nat → Nat → Option Nat := u2 mr20 4 0 (some 5)
def mr22 : Nat → Nat → Option Nat := u2 mr21 4 1 (some 6)
def mr23 : Nat → Nat → Option Nat := u2 mr22 4 2 (some 7)
def mr24 : Nat → Nat → Option Nat := u2 mr23 4 3 (some 9)
def mr25 : Nat → Nat → Option Nat := u2 mr24 4 4 (some 17)
def kk23 : Nat → Nat := u1 kk22 26 5
def ll23 : Nat → Nat := ll22
def sg23 : Shp := ((23, 3151), kk23, ll23)
def kk24 : Nat → Nat := u1 kk23 27 10
def ll24 : Nat → Nat := ll23
def sg24 : Shp := ((24, 3160), kk24, ll24)
def kk25 : Nat → Nat := fun b => if b = 28 then 28 else if 29 ≤ b ∧ b < 32 then 20 else kk24 b
def ll25 : Nat → Nat := fun b => if b = 28 then 3 else if 29 ≤ b ∧ b < 32 then 8 else ll24 b
def sg25 : Shp := ((28, 3187), kk25, ll25)
def mr26 : Nat → Nat → Option Nat := mRr mr25 28 3
def mr27 : Nat → Nat → Option Nat := u2 mr26 27 0 (some 28)
def kk26 : Nat → Nat := fun b => if b = 32 then 28 else if 33 ≤ b ∧ b < 36 then 20 else kk25 b
def ll26 : Nat → Nat := fun b => if b = 32 then 3 else if 33 ≤ b ∧ b < 36 then 8 else ll25 b
def sg26 : Shp := ((32, 3214), kk26, ll26)
def mr28 : Nat → Nat → Option Nat := mRr mr27 32 3
def mr29 : Nat → Nat → Option Nat := u2 mr28 27 1 (some 32)
def kk27 : Nat → Nat := u1 kk26 36 20
def ll27 : Nat → Nat := u1 ll26 36 3
def sg27 : Shp := ((33, 3217), kk27, ll27)
def mr30 : Nat → Nat → Option Nat := u2 mr29 27 2 (some 36)
def kk28 : Nat → Nat := u1 kk27 37 20
def ll28 : Nat → Nat := u1 ll27 37 3
def sg28 : Shp := ((34, 3220), kk28, ll28)
def mr31 : Nat → Nat → Option Nat := u2 mr30 27 3 (some 37)
def kk29 : Nat → Nat := u1 kk28 38 20
def ll29 : Nat → Nat := u1 ll28 38 3
def sg29 : Shp := ((35, 3223), kk29, ll29)
def mr32 : Nat → Nat → Option Nat := u2 mr31 27 4 (some 38)
def kk30 : Nat → Nat := u1 kk29 39 24
def ll30 : Nat → Nat := u1 ll29 39 3
def sg30 : Shp := ((36, 3226), kk30, ll30)
def mr33 : Nat → Nat → Option Nat := u2 mr32 27 5 (some 39)
def kk31 : Nat → Nat := u1 kk30 40 24
def ll31 : Nat → Nat := u1 ll30 40 3
def sg31 : Shp := ((37, 3229), kk31, ll31)
def mr34 : Nat → Nat → Option Nat := u2 mr33 27 6 (some 40)
def kk32 : Nat → Nat := u1 kk31 41 20
def ll32 : Nat → Nat := u1 ll31 41 3
def sg32 : Shp := ((38, 3232), kk32, ll32)
def mr35 : Nat → Nat → Option Nat := u2 mr34 27 7 (some 41)
def mr36 : Nat → Nat → Option Nat := u2 mr35 26 0 (some 27)
def kk33 : Nat → Nat := fun b => if b = 42 then 28 else if 43 ≤ b ∧ b < 52 then 20 else kk32 b
def ll33 : Nat → Nat := fun b => if b = 42 then 9 else if 43 ≤ b ∧ b < 52 then 5 else ll32 b
def sg33 : Shp := ((48, 3286), kk33, ll33)
def mr37 : Nat → Nat → Option Nat := mRr mr36 42 9
def mr38 : Nat → Nat → Option Nat := u2 mr37 26 1 (some 42)
def kk34 : Nat → Nat := u1 kk33 52 21
def ll34 : Nat → Nat := u1 ll33 52 9
def sg34 : Shp := ((49, 3295), kk34, ll34)
def mr39 : Nat → Nat → Option Nat := u2 mr38 26 2 (some 52)
def kk35 : Nat → Nat := u1 kk34 53 25
def ll35 : Nat → Nat := u1 ll34 53 9
def sg35 : Shp := ((50, 3304), kk35, ll35)
def mr40 : Nat → Nat → Option Nat := u2 mr39 26 3 (some 53)
def kk36 : Nat → Nat := u1 kk35 54 21
def ll36 : Nat → Nat := u1 ll35 54 9
def sg36 : Shp := ((51, 3313), kk36, ll36)
def mr41 : Nat → Nat → Option Nat := u2 mr40 26 4 (some 54)
def kk37 : Nat → Nat := u1 kk36 55 21
def ll37 : Nat → Nat := u1 ll36 55 3
def sg37 : Shp := ((52, 3316), kk37, ll37)
def mr42 : Nat → Nat → Option Nat := u2 mr41 26 5 (some 55)
def kk38 : Nat → Nat := u1 kk37 56 21
def ll38 : Nat → Nat := u1 ll37 56 9
def sg38 : Shp := ((53, 3325), kk38, ll38)
def mr43 : Nat → Nat → Option Nat := u2 mr42 26 6 (some 56)
def mdd1 : Nat → Nat → UInt64 := u2 zD 26 7 (4611686018427387904 : UInt64)
def kk39 : Nat → Nat := fun b => if b = 57 then 29 else if 58 ≤ b ∧ b < 61 then 21 else kk38 b
def ll39 : Nat → Nat := fun b => if b = 57 then 3 else if 58 ≤ b ∧ b < 61 then 11 else ll38 b
def sg39 : Shp := ((57, 3361), kk39, ll39)
def mr44 : Nat → Nat → Option Nat := mRr mr43 57 3
def mr45 : Nat → Nat → Option Nat := u2 mr44 26 8 (some 57)
def kk40 : Nat → Nat := u1 kk39 61 20
def ll40 : Nat → Nat := u1 ll39 61 5
def sg40 : Shp := ((58, 3366), kk40, ll40)
def mi1 : Nat → Nat → Int32 := u2 zI 61 0 (0 : Int32)
def mi2 : Nat → Nat → Int32 := u2 mi1 61 1 (10000 : Int32)
def mi3 : Nat → Nat → Int32 := u2 mi2 61 2 (5000 : Int32)
def mi4 : Nat → Nat → Int32 := u2 mi3 61 3 (0 : Int32)
def mi5 : Nat → Nat → Int32 := u2 mi4 61 4 (0 : Int32)
def mr46 : Nat → Nat → Option Nat := u2 mr45 26 9 (some 61)
def kk41 : Nat → Nat := fun b => if b = 62 then 28 else if 63 ≤ b ∧ b < 66 then 20 else kk40 b
def ll41 : Nat → Nat := fun b => if b = 62 then 3 else if 63 ≤ b ∧ b < 66 then 6 else ll40 b
def sg41 : Shp := ((62, 3387), kk41, ll41)
def mr47 : Nat → Nat → Option Nat := mRr mr46 62 3
def mr48 : Nat → Nat → Option Nat := u2 mr47 26 10 (some 62)
def kk42 : Nat → Nat := fun b => if b = 66 then 28 else if 67 ≤ b ∧ b < 70 then 20 else kk41 b
def ll42 : Nat → Nat := fun b => if b = 66 then 3 else if 67 ≤ b ∧ b < 70 then 6 else ll41 b
def sg42 : Shp := ((66, 3408), kk42, ll42)
def mr49 : Nat → Nat → Option Nat := mRr mr48 66 3
def mr50 : Nat → Nat → Option Nat := u2 mr49 26 11 (some 66)
def kk43 : Nat → Nat := u1 kk42 70 20
def ll43 : Nat → Nat := u1 ll42 70 3
def sg43 : Shp := ((67, 3411), kk43, ll43)
def mr51 : Nat → Nat → Option Nat := u2 mr50 26 12 (some 70)
def mj1 : Nat → Nat → Int64 := u2 zJ 52 0 (9221120237041090560 : Int64)
def mi6 : Nat → Nat → Int32 := u2 mi5 43 0 (1 : Int32)
def mj2 : Nat → Nat → Int64 := u2 mj1 52 1 (9221120237041090560 : Int64)
def mi7 : Nat → Nat → Int32 := u2 mi6 44 0 (1 : Int32)
def mj3 : Nat → Nat → Int64 := u2 mj2 52 2 (9221120237041090560 : Int64)
def mi8 : Nat → Nat → Int32 := u2 mi7 45 0 (1 : Int32)
def mj4 : Nat → Nat → Int64 := u2 mj3 52 3 (9221120237041090560 : Int64)
def mi9 : Nat → Nat → Int32 := u2 mi8 46 0 (1 : Int32)
def mj5 : Nat → Nat → Int64 := u2 mj4 52 4 (9221120237041090560 : Int64)
def mi10 : Nat → Nat → Int32 := u2 mi9 47 0 (1 : Int32)
def mj6 : Nat → Nat → Int64 := u2 mj5 52 5 (9221120237041090560 : Int64)
def mi11 : Nat → Nat → Int32 := u2 mi10 48 0 (1 : Int32)
def mj7 : Nat → Nat → Int64 := u2 mj6 52 6 (9221120237041090560 : Int64)
def mi12 : Nat → Nat → Int32 := u2 mi11 49 0 (1 : Int32)
def mj8 : Nat → Nat → Int64 := u2 mj7 52 7 (9221120237041090560 : Int64)
def mi13 : Nat → Nat → Int32 := u2 mi12 50 0 (1 : Int32)
def mj9 : Nat → Nat → Int64 := u2 mj8 52 8 (9221120237041090560 : Int64)
def mi14 : Nat → Nat → Int32 := u2 mi13 51 0 (1 : Int32)
def mj10 : Nat → Nat → Int64 := u2 mj9 55 0 (9221120237041090560 : Int64)
def mj11 : Nat → Nat → Int64 := u2 mj10 58 0 (20000 : Int64)
def mj12 : Nat → Nat → Int64 := u2 mj11 58 1 (8000 : Int64)
def mj13 : Nat → Nat → Int64 := u2 mj12 55 1 (9221120237041090560 : Int64)
def mj14 : Nat → Nat → Int64 := u2 mj13 59 0 (20000 : Int64)
def mj15 : Nat → Nat → Int64 := u2 mj14 59 1 (8000 : Int64)
def mj16 : Nat → Nat → Int64 := u2 mj15 55 2 (9221120237041090560 : Int64)
def mj17 : Nat → Nat → Int64 := u2 mj16 60 0 (20000 : Int64)
def mj18 : Nat → Nat → Int64 := u2 mj17 60 1 (8000 : Int64)
def mr52 : Nat → Nat → Option Nat := u2 mr51 4 5 (some 26)
def mr53 : Nat → Nat → Option Nat := u2 mr52 4 6 (some 27)
def kk44 : Nat → Nat := u1 kk43 71 3
def ll44 : Nat → Nat := ll43
def sg44 : Shp := ((68, 3419), kk44, ll44)
def kk45 : Nat → Nat := fun b => if b = 72 then 28 else if 73 ≤ b ∧ b < 79 then 20 else kk44 b
def ll45 : Nat → Nat := fun b => if b = 72 then 6 else if 73 ≤ b ∧ b < 79 then 3 else ll44 b
def sg45 : Shp := ((75, 3443), kk45, ll45)
def mr54 : Nat → Nat → Option Nat := mRr mr53 72 6
def mr55 : Nat → Nat → Option Nat := u2 mr54 71 0 (some 72)
def kk46 : Nat → Nat := fun b => if b = 79 then 29 else if 80 ≤ b ∧ b < 83 then 21 else kk45 b
def ll46 : Nat → Nat := fun b => if b = 79 then 3 else if 80 ≤ b ∧ b < 83 then 8 else ll45 b
def sg46 : Shp := ((79, 3470), kk46, ll46)
def mr56 : Nat → Nat → Option Nat := mRr mr55 79 3
def mr57 : Nat → Nat → Option Nat := u2 mr56 71 1 (some 79)
def kk47 : Nat → Nat := fun b => if b = 83 then 29 else if 84 ≤ b ∧ b < 87 then 21 else kk46 b
def ll47 : Nat → Nat := fun b => if b = 83 then 3 else if 84 ≤ b ∧ b < 87 then 8 else ll46 b
def sg47 : Shp := ((83, 3497), kk47, ll47)
def mr58 : Nat → Nat → Option Nat := mRr mr57 83 3
def mr59 : Nat → Nat → Option Nat := u2 mr58 71 2 (some 83)
def kk48 : Nat → Nat := u1 kk47 87 20
def ll48 : Nat → Nat := u1 ll47 87 3
def sg48 : Shp := ((84, 3500), kk48, ll48)
def mr60 : Nat → Nat → Option Nat := u2 mr59 71 3 (some 87)
def kk49 : Nat → Nat := u1 kk48 88 21
def ll49 : Nat → Nat := u1 ll48 88 4
def sg49 : Shp := ((85, 3504), kk49, ll49)
def mr61 : Nat → Nat → Option Nat := u2 mr60 71 4 (some 88)
def kk50 : Nat → Nat := u1 kk49 89 21
def ll50 : Nat → Nat := u1 ll49 89 4
def sg50 : Shp := ((86, 3508), kk50, ll50)
def mr62 : Nat → Nat → Option Nat := u2 mr61 71 5 (some 89)
def kk51 : Nat → Nat := u1 kk50 90 21
def ll51 : Nat → Nat := u1 ll50 90 3
def sg51 : Shp := ((87, 3511), kk51, ll51)
def mr63 : Nat → Nat → Option Nat := u2 mr62 71 6 (some 90)
def mr64 : Nat → Nat → Option Nat := u2 mr63 4 7 (some 71)
def kk52 : Nat → Nat := u1 kk51 91 6
def ll52 : Nat → Nat := ll51
def sg52 : Shp := ((88, 3521), kk52, ll52)
def kk53 : Nat → Nat := fun b => if b = 92 then 29 else if 93 ≤ b ∧ b < 95 then 21 else kk52 b
def ll53 : Nat → Nat := fun b => if b = 92 then 2 else if 93 ≤ b ∧ b < 95 then 4 else ll52 b
def sg53 : Shp := ((91, 3531), kk53, ll53)
def mr65 : Nat → Nat → Option Nat := mRr mr64 92 2
def mr66 : Nat → Nat → Option Nat := u2 mr65 91 0 (some 92)
def kk54 : Nat → Nat := fun b => if b = 95 then 28 else if 96 ≤ b ∧ b < 98 then 20 else kk53 b
def ll54 : Nat → Nat := fun b => if b = 95 then 2 else if 96 ≤ b ∧ b < 98 then 4 else ll53 b
def sg54 : Shp := ((94, 3541), kk54, ll54)
def mr67 : Nat → Nat → Option Nat := mRr mr66 95 2
def mr68 : Nat → Nat → Option Nat := u2 mr67 91 1 (some 95)
def kk55 : Nat → Nat := fun b => if b = 98 then 28 else if 99 ≤ b ∧ b < 101 then 20 else kk54 b
def ll55 : Nat → Nat := fun b => if b = 98 then 2 else if 99 ≤ b ∧ b < 101 then 4 else ll54 b
def sg55 : Shp := ((97, 3551), kk55, ll55)
def mr69 : Nat → Nat → Option Nat := mRr mr68 98 2
def mr70 : Nat → Nat → Option Nat := u2 mr69 91 2 (some 98)
def kk56 : Nat → Nat := fun b => if b = 101 then 28 else if 102 ≤ b ∧ b < 104 then 20 else kk55 b
def ll56 : Nat → Nat := fun b => if b = 101 then 2 else if 102 ≤ b ∧ b < 104 then 4 else ll55 b
def sg56 : Shp := ((100, 3561), kk56, ll56)
def mr71 : Nat → Nat → Option Nat := mRr mr70 101 2
def mr72 : Nat → Nat → Option Nat := u2 mr71 91 3 (some 101)
def kk57 : Nat → Nat := u1 kk56 104 21
def ll57 : Nat → Nat := u1 ll56 104 3
def sg57 : Shp := ((101, 3564), kk57, ll57)
def mr73 : Nat → Nat → Option Nat := u2 mr72 91 4 (some 104)
def kk58 : Nat → Nat := u1 kk57 105 21
def ll58 : Nat → Nat := u1 ll57 105 3
def sg58 : Shp := ((102, 3567), kk58, ll58)
def mr74 : Nat → Nat → Option Nat := u2 mr73 91 5 (some 105)
def kk59 : Nat → Nat := u1 kk58 106 21
def ll59 : Nat → Nat := u1 ll58 106 3
def sg59 : Shp := ((103, 3570), kk59, ll59)
def mr75 : Nat → Nat → Option Nat := u2 mr74 91 6 (some 106)
def kk60 : Nat → Nat := u1 kk59 107 21
def ll60 : Nat → Nat := u1 ll59 107 4
def sg60 : Shp := ((104, 3574), kk60, ll60)
def mr76 : Nat → Nat → Option Nat := u2 mr75 91 7 (some 107)
def mr77 : Nat → Nat → Option Nat := u2 mr76 4 8 (some 91)
def kk61 : Nat → Nat := u1 kk60 108 2
def ll61 : Nat → Nat := ll60
def sg61 : Shp := ((105, 3581), kk61, ll61)
def kk62 : Nat → Nat := u1 kk61 109 20
def ll62 : Nat → Nat := u1 ll61 109 1280
def sg62 : Shp := ((106, 4861), kk62, ll62)
def mr78 : Nat → Nat → Option Nat := u2 mr77 108 0 (some 109)
def kk63 : Nat → Nat := u1 kk62 110 20
def ll63 : Nat → Nat := u1 ll62 110 64
def sg63 : Shp := ((107, 4925), kk63, ll63)
def mr79 : Nat → Nat → Option Nat := u2 mr78 108 1 (some 110)
def kk64 : Nat → Nat := u1 kk63 111 20
def ll64 : Nat → Nat := u1 ll63 111 20
def sg64 : Shp := ((108, 4945), kk64, ll64)
def mr80 : Nat → Nat → Option Nat := u2 mr79 108 2 (some 111)
def mi15 : Nat → Nat → Int32 := u2 mi14 108 6 (-1 : Int32)
def mr81 : Nat → Nat → Option Nat := u2 mr80 4 9 (some 108)
def kk65 : Nat → Nat := u1 kk64 112 21
def ll65 : Nat → Nat := u1 ll64 112 40
def sg65 : Shp := ((109, 4985), kk65, ll65)
def mr82 : Nat → Nat → Option Nat := u2 mr81 4 10 (some 112)
def kk66 : Nat → Nat := u1 kk65 113 21
def ll66 : Nat → Nat := u1 ll65 113 40
def sg66 : Shp := ((110, 5025), kk66, ll66)
def mr83 : Nat → Nat → Option Nat := u2 mr82 4 11 (some 113)
def kk67 : Nat → Nat := u1 kk66 114 13
def ll67 : Nat → Nat := ll66
def sg67 : Shp := ((111, 5160), kk67, ll67)
def kk68 : Nat → Nat := u1 kk67 115 20
def ll68 : Nat → Nat := u1 ll67 115 16
def sg68 : Shp := ((112, 5176), kk68, ll68)
def mr84 : Nat → Nat → Option Nat := u2 mr83 114 3 (some 115)
def kk69 : Nat → Nat := u1 kk68 116 22
def ll69 : Nat → Nat := u1 ll68 116 4100
def sg69 : Shp := ((113, 9276), kk69, ll69)
def mr85 : Nat → Nat → Option Nat := u2 mr84 114 4 (some 116)
def kk70 : Nat → Nat := u1 kk69 117 22
def ll70 : Nat → Nat := u1 ll69 117 4100
def sg70 : Shp := ((114, 13376), kk70, ll70)
def mr86 : Nat → Nat → Option Nat := u2 mr85 114 5 (some 117)
def kk71 : Nat → Nat := u1 kk70 118 20
def ll71 : Nat → Nat := u1 ll70 118 4100
def sg71 : Shp := ((115, 17476), kk71, ll71)
def mr87 : Nat → Nat → Option Nat := u2 mr86 114 6 (some 118)
def kk72 : Nat → Nat := u1 kk71 119 21
def ll72 : Nat → Nat := u1 ll71 119 164000
def sg72 : Shp := ((116, 181476), kk72, ll72)
def mr88 : Nat → Nat → Option Nat := u2 mr87 114 8 (some 119)
def kk73 : Nat → Nat := u1 kk72 120 23
def ll73 : Nat → Nat := u1 ll72 120 41000
def sg73 : Shp := ((117, 222476), kk73, ll73)
def mr89 : Nat → Nat → Option Nat := u2 mr88 114 10 (some 120)
def kk74 : Nat → Nat := u1 kk73 121 20
def ll74 : Nat → Nat := u1 ll73 121 4100
def sg74 : Shp := ((118, 226576), kk74, ll74)
def mr90 : Nat → Nat → Option Nat := u2 mr89 114 11 (some 121)
def kk75 : Nat → Nat := u1 kk74 122 22
def ll75 : Nat → Nat := u1 ll74 122 4100
def sg75 : Shp := ((119, 230676), kk75, ll75)
def mr91 : Nat → Nat → Option Nat := u2 mr90 114 12 (some 122)
def kk76 : Nat → Nat := u1 kk75 123 20
def ll76 : Nat → Nat := u1 ll75 123 4100
def sg76 : Shp := ((120, 234776), kk76, ll76)
def mr92 : Nat → Nat → Option Nat := u2 mr91 114 13 (some 123)
def kk77 : Nat → Nat := u1 kk76 124 20
def ll77 : Nat → Nat := u1 ll76 124 4100
def sg77 : Shp := ((121, 238876), kk77, ll77)
def mr93 : Nat → Nat → Option Nat := u2 mr92 114 14 (some 124)
def kk78 : Nat → Nat := u1 kk77 125 23
def ll78 : Nat → Nat := u1 ll77 125 4100
def sg78 : Shp := ((122, 242976), kk78, ll78)
def mr94 : Nat → Nat → Option Nat := u2 mr93 114 15 (some 125)
def kk79 : Nat → Nat := u1 kk78 126 23
def ll79 : Nat → Nat := u1 ll78 126 4100
def sg79 : Shp := ((123, 247076), kk79, ll79)
def mr95 : Nat → Nat → Option Nat := u2 mr94 114 16 (some 126)
def kk80 : Nat → Nat := u1 kk79 127 22
def ll80 : Nat → Nat := u1 ll79 127 4100
def sg80 : Shp := ((124, 251176), kk80, ll80)
def mr96 : Nat → Nat → Option Nat := u2 mr95 114 17 (some 127)
def kk81 : Nat → Nat := u1 kk80 128 21
def ll81 : Nat → Nat := u1 ll80 128 40
def sg81 : Shp := ((125, 251216), kk81, ll81)
def mr97 : Nat → Nat → Option Nat := u2 mr96 114 21 (some 128)
def kk82 : Nat → Nat := u1 kk81 129 20
def ll82 : Nat → Nat := u1 ll81 129 200
def sg82 : Shp := ((126, 251416), kk82, ll82)
def mr98 : Nat → Nat → Option Nat := u2 mr97 114 23 (some 129)
def kk83 : Nat → Nat := u1 kk82 130 20
def ll83 : Nat → Nat := u1 ll82 130 8
def sg83 : Shp := ((127, 251424), kk83, ll83)
def mr99 : Nat → Nat → Option Nat := u2 mr98 114 26 (some 130)
def kk84 : Nat → Nat := u1 kk83 131 20
def ll84 : Nat → Nat := u1 ll83 131 8
def sg84 : Shp := ((128, 251432), kk84, ll84)
def mr100 : Nat → Nat → Option Nat := u2 mr99 114 27 (some 131)
def kk85 : Nat → Nat := u1 kk84 132 20
def ll85 : Nat → Nat := u1 ll84 132 8
def sg85 : Shp := ((129, 251440), kk85, ll85)
def mr101 : Nat → Nat → Option Nat := u2 mr100 114 28 (some 132)
def kk86 : Nat → Nat := u1 kk85 133 20
def ll86 : Nat → Nat := u1 ll85 133 4100
def sg86 : Shp := ((130, 255540), kk86, ll86)
def mr102 : Nat → Nat → Option Nat := u2 mr101 114 31 (some 133)
def kk87 : Nat → Nat := u1 kk86 134 20
def ll87 : Nat → Nat := u1 ll86 134 4
def sg87 : Shp := ((131, 255544), kk87, ll87)
def mr103 : Nat → Nat → Option Nat := u2 mr102 114 33 (some 134)
def kk88 : Nat → Nat := u1 kk87 135 20
def ll88 : Nat → Nat := u1 ll87 135 160
def sg88 : Shp := ((132, 255704), kk88, ll88)
def mr104 : Nat → Nat → Option Nat := u2 mr103 114 34 (some 135)
def kk89 : Nat → Nat := u1 kk88 136 20
def ll89 : Nat → Nat := u1 ll88 136 160
def sg89 : Shp := ((133, 255864), kk89, ll89)
def mr105 : Nat → Nat → Option Nat := u2 mr104 114 35 (some 136)
def kk90 : Nat → Nat := u1 kk89 137 20
def ll90 : Nat → Nat := u1 ll89 137 160
def sg90 : Shp := ((134, 256024), kk90, ll90)
def mr106 : Nat → Nat → Option Nat := u2 mr105 114 36 (some 137)
def kk91 : Nat → Nat := u1 kk90 138 20
def ll91 : Nat → Nat := u1 ll90 138 160
def sg91 : Shp := ((135, 256184), kk91, ll91)
def mr107 : Nat → Nat → Option Nat := u2 mr106 114 37 (some 138)
def kk92 : Nat → Nat := u1 kk91 139 21
def ll92 : Nat → Nat := u1 ll91 139 6
def sg92 : Shp := ((136, 256190), kk92, ll92)
def mr108 : Nat → Nat → Option Nat := u2 mr107 114 38 (some 139)
def kk93 : Nat → Nat := u1 kk92 140 20
def ll93 : Nat → Nat := u1 ll92 140 3
def sg93 : Shp := ((137, 256193), kk93, ll93)
def mr109 : Nat → Nat → Option Nat := u2 mr108 114 39 (some 140)
def kk94 : Nat → Nat := u1 kk93 141 20
def ll94 : Nat → Nat := u1 ll93 141 3
def sg94 : Shp := ((138, 256196), kk94, ll94)
def mr110 : Nat → Nat → Option Nat := u2 mr109 114 40 (some 141)
def kk95 : Nat → Nat := u1 kk94 142 20
def ll95 : Nat → Nat := u1 ll94 142 44
def sg95 : Shp := ((139, 256240), kk95, ll95)
def mr111 : Nat → Nat → Option Nat := u2 mr110 114 41 (some 142)
def kk96 : Nat → Nat := u1 kk95 143 20
def ll96 : Nat → Nat := u1 ll95 143 400
def sg96 : Shp := ((140, 256640), kk96, ll96)
def mr112 : Nat → Nat → Option Nat := u2 mr111 114 43 (some 143)
def kk97 : Nat → Nat := u1 kk96 144 20
def ll97 : Nat → Nat := u1 ll96 144 400
def sg97 : Shp := ((141, 257040), kk97, ll97)
def mr113 : Nat → Nat → Option Nat := u2 mr112 114 44 (some 144)
def kk98 : Nat → Nat := u1 kk97 145 20
def ll98 : Nat → Nat := u1 ll97 145 400
def sg98 : Shp := ((142, 257440), kk98, ll98)
def mr114 : Nat → Nat → Option Nat := u2 mr113 114 45 (some 145)
def kk99 : Nat → Nat := u1 kk98 146 20
def ll99 : Nat → Nat := u1 ll98 146 400
def sg99 : Shp := ((143, 257840), kk99, ll99)
def mr115 : Nat → Nat → Option Nat := u2 mr114 114 46 (some 146)
def kk100 : Nat → Nat := u1 kk99 147 20
def ll100 : Nat → Nat := u1 ll99 147 400
def sg100 : Shp := ((144, 258240), kk100, ll100)
def mr116 : Nat → Nat → Option Nat := u2 mr115 114 47 (some 147)
def kk101 : Nat → Nat := u1 kk100 148 20
def ll101 : Nat → Nat := u1 ll100 148 400
def sg101 : Shp := ((145, 258640), kk101, ll101)
def mr117 : Nat → Nat → Option Nat := u2 mr116 114 48 (some 148)
def kk102 : Nat → Nat := u1 kk101 149 20
def ll102 : Nat → Nat := u1 ll101 149 400
def sg102 : Shp := ((146, 259040), kk102, ll102)
def mr118 : Nat → Nat → Option Nat := u2 mr117 114 49 (some 149)
def kk103 : Nat → Nat := u1 kk102 150 20
def ll103 : Nat → Nat := u1 ll102 150 400
def sg103 : Shp := ((147, 259440), kk103, ll103)
def mr119 : Nat → Nat → Option Nat := u2 mr118 114 50 (some 150)
def kk104 : Nat → Nat := u1 kk103 151 20
def ll104 : Nat → Nat := u1 ll103 151 400
def sg104 : Shp := ((148, 259840), kk104, ll104)
def mr120 : Nat → Nat → Option Nat := u2 mr119 114 51 (some 151)
def kk105 : Nat → Nat := u1 kk104 152 20
def ll105 : Nat → Nat := u1 ll104 152 400
def sg105 : Shp := ((149, 260240), kk105, ll105)
def mr121 : Nat → Nat → Option Nat := u2 mr120 114 52 (some 152)
def kk106 : Nat → Nat := u1 kk105 153 20
def ll106 : Nat → Nat := u1 ll105 153 400
def sg106 : Shp := ((150, 260640), kk106, ll106)
def mr122 : Nat → Nat → Option Nat := u2 mr121 114 53 (some 153)
def kk107 : Nat → Nat := u1 kk106 154 20
def ll107 : Nat → Nat := u1 ll106 154 2000
def sg107 : Shp := ((151, 262640), kk107, ll107)
def mr123 : Nat → Nat → Option Nat := u2 mr122 114 55 (some 154)
def kk108 : Nat → Nat := u1 kk107 155 21
def ll108 : Nat → Nat := u1 ll107 155 2000
def sg108 : Shp := ((152, 264640), kk108, ll108)
def mr124 : Nat → Nat → Option Nat := u2 mr123 114 56 (some 155)
def mi16 : Nat → Nat → Int32 := u2 mi15 114 71 (-1 : Int32)
def kk109 : Nat → Nat := u1 kk108 156 20
def ll109 : Nat → Nat := u1 ll108 156 3
def sg109 : Shp := ((153, 264643), kk109, ll109)
def mr125 : Nat → Nat → Option Nat := u2 mr124 114 75 (some 156)
def kk110 : Nat → Nat := u1 kk109 157 20
def ll110 : Nat → Nat := u1 ll109 157 24
def sg110 : Shp := ((154, 264667), kk110, ll110)
def mr126 : Nat → Nat → Option Nat := u2 mr125 114 76 (some 157)
def kk111 : Nat → Nat := u1 kk110 158 20
def ll111 : Nat → Nat := u1 ll110 158 24
def sg111 : Shp := ((155, 264691), kk111, ll111)
def mr127 : Nat → Nat → Option Nat := u2 mr126 114 77 (some 158)
def kk112 : Nat → Nat := u1 kk111 159 20
def ll112 : Nat → Nat := u1 ll111 159 3
def sg112 : Shp := ((156, 264694), kk112, ll112)
def mi17 : Nat → Nat → Int32 := u2 mi16 159 0 (-1 : Int32)
def mi18 : Nat → Nat → Int32 := u2 mi17 159 1 (-1 : Int32)
def mi19 : Nat → Nat → Int32 := u2 mi18 159 2 (-1 : Int32)
def mr128 : Nat → Nat → Option Nat := u2 mr127 114 78 (some 159)
def kk113 : Nat → Nat := u1 kk112 160 24
def ll113 : Nat → Nat := u1 ll112 160 3
def sg113 : Shp := ((157, 264697), kk113, ll113)
def mr129 : Nat → Nat → Option Nat := u2 mr128 114 79 (some 160)
def kk114 : Nat → Nat := u1 kk113 161 24
def ll114 : Nat → Nat := u1 ll113 161 3
def sg114 : Shp := ((158, 264700), kk114, ll114)
def mr130 : Nat → Nat → Option Nat := u2 mr129 114 80 (some 161)
def kk115 : Nat → Nat := u1 kk114 162 20
def ll115 : Nat → Nat := u1 ll114 162 3
def sg115 : Shp := ((159, 264703), kk115, ll115)
def mr131 : Nat → Nat → Option Nat := u2 mr130 114 81 (some 162)
def kk116 : Nat → Nat := u1 kk115 163 20
def ll116 : Nat → Nat := u1 ll115 163 3
def sg116 : Shp := ((160, 264706), kk116, ll116)
def mr132 : Nat → Nat → Option Nat := u2 mr131 114 82 (some 163)
def kk117 : Nat → Nat := u1 kk116 164 20
def ll117 : Nat → Nat := u1 ll116 164 3
def sg117 : Shp := ((161, 264709), kk117, ll117)
def mr133 : Nat → Nat → Option Nat := u2 mr132 114 84 (some 164)
def kk118 : Nat → Nat := u1 kk117 165 21
def ll118 : Nat → Nat := u1 ll117 165 9
def sg118 : Shp := ((162, 264718), kk118, ll118)
def mj19 : Nat → Nat → Int64 := u2 mj18 165 0 (9221120237041090560 : Int64)
def mj20 : Nat → Nat → Int64 := u2 mj19 165 1 (9221120237041090560 : Int64)
def mj21 : Nat → Nat → Int64 := u2 mj20 165 2 (9221120237041090560 : Int64)
def mj22 : Nat → Nat → Int64 := u2 mj21 165 3 (9221120237041090560 : Int64)
def mj23 : Nat → Nat → Int64 := u2 mj22 165 4 (9221120237041090560 : Int64)
def mj24 : Nat → Nat → Int64 := u2 mj23 165 5 (9221120237041090560 : Int64)
def mj25 : Nat → Nat → Int64 := u2 mj24 165 6 (9221120237041090560 : Int64)
def mj26 : Nat → Nat → Int64 := u2 mj25 165 7 (9221120237041090560 : Int64)
def mj27 : Nat → Nat → Int64 := u2 mj26 165 8 (9221120237041090560 : Int64)
def mr134 : Nat → Nat → Option Nat := u2 mr133 114 86 (some 165)
def kk119 : Nat → Nat := u1 kk118 166 21
def ll119 : Nat → Nat := u1 ll118 166 9
def sg119 : Shp := ((163, 264727), kk119, ll119)
def mr135 : Nat → Nat → Option Nat := u2 mr134 114 87 (some 166)
def kk120 : Nat → Nat := u1 kk119 167 24
def ll120 : Nat → Nat := u1 ll119 167 9
def sg120 : Shp := ((164, 264736), kk120, ll120)
def mr136 : Nat → Nat → Option Nat := u2 mr135 114 88 (some 167)
def kk121 : Nat → Nat := u1 kk120 168 20
def ll121 : Nat → Nat := u1 ll120 168 9
def sg121 : Shp := ((165, 264745), kk121, ll121)
def mr137 : Nat → Nat → Option Nat := u2 mr136 114 89 (some 168)
def kk122 : Nat → Nat := u1 kk121 169 20
def ll122 : Nat → Nat := u1 ll121 169 9
def sg122 : Shp := ((166, 264754), kk122, ll122)
def mr138 : Nat → Nat → Option Nat := u2 mr137 114 90 (some 169)
def kk123 : Nat → Nat := u1 kk122 170 20
def ll123 : Nat → Nat := u1 ll122 170 9
def sg123 : Shp := ((167, 264763), kk123, ll123)
def mr139 : Nat → Nat → Option Nat := u2 mr138 114 91 (some 170)
def kk124 : Nat → Nat := u1 kk123 171 20
def ll124 : Nat → Nat := u1 ll123 171 9
def sg124 : Shp := ((168, 264772), kk124, ll124)
def mr140 : Nat → Nat → Option Nat := u2 mr139 114 92 (some 171)
def kk125 : Nat → Nat := u1 kk124 172 24
def ll125 : Nat → Nat := u1 ll124 172 9
def sg125 : Shp := ((169, 264781), kk125, ll125)
def mr141 : Nat → Nat → Option Nat := u2 mr140 114 93 (some 172)
def mdd2 : Nat → Nat → UInt64 := u2 mdd1 114 94 (4611686018427387904 : UInt64)
def kk126 : Nat → Nat := u1 kk125 173 21
def ll126 : Nat → Nat := u1 ll125 173 3
def sg126 : Shp := ((170, 264784), kk126, ll126)
def mj28 : Nat → Nat → Int64 := u2 mj27 173 0 (9221120237041090560 : Int64)
def mj29 : Nat → Nat → Int64 := u2 mj28 173 1 (9221120237041090560 : Int64)
def mj30 : Nat → Nat → Int64 := u2 mj29 173 2 (9221120237041090560 : Int64)
def mr142 : Nat → Nat → Option Nat := u2 mr141 114 95 (some 173)
def kk127 : Nat → Nat := u1 kk126 174 20
def ll127 : Nat → Nat := u1 ll126 174 5
def sg127 : Shp := ((171, 264789), kk127, ll127)
def mi20 : Nat → Nat → Int32 := u2 mi19 174 0 (0 : Int32)
def mi21 : Nat → Nat → Int32 := u2 mi20 174 1 (10000 : Int32)
def mi22 : Nat → Nat → Int32 := u2 mi21 174 2 (5000 : Int32)
def mi23 : Nat → Nat → Int32 := u2 mi22 174 3 (0 : Int32)
def mi24 : Nat → Nat → Int32 := u2 mi23 174 4 (0 : Int32)
def mr143 : Nat → Nat → Option Nat := u2 mr142 114 96 (some 174)
def kk128 : Nat → Nat := u1 kk127 175 21
def ll128 : Nat → Nat := u1 ll127 175 3
def sg128 : Shp := ((172, 264792), kk128, ll128)
def mj31 : Nat → Nat → Int64 := u2 mj30 175 0 (20000 : Int64)
def mj32 : Nat → Nat → Int64 := u2 mj31 175 1 (20000 : Int64)
def mj33 : Nat → Nat → Int64 := u2 mj32 175 2 (20000 : Int64)
def mr144 : Nat → Nat → Option Nat := u2 mr143 114 97 (some 175)
def kk129 : Nat → Nat := u1 kk128 176 21
def ll129 : Nat → Nat := u1 ll128 176 3
def sg129 : Shp := ((173, 264795), kk129, ll129)
def mj34 : Nat → Nat → Int64 := u2 mj33 176 0 (8000 : Int64)
def mj35 : Nat → Nat → Int64 := u2 mj34 176 1 (8000 : Int64)
def mj36 : Nat → Nat → Int64 := u2 mj35 176 2 (8000 : Int64)
def mr145 : Nat → Nat → Option Nat := u2 mr144 114 98 (some 176)
def kk130 : Nat → Nat := u1 kk129 177 20
def ll130 : Nat → Nat := u1 ll129 177 3
def sg130 : Shp := ((174, 264798), kk130, ll130)
def mr146 : Nat → Nat → Option Nat := u2 mr145 114 99 (some 177)
def kk131 : Nat → Nat := u1 kk130 178 20
def ll131 : Nat → Nat := u1 ll130 178 3
def sg131 : Shp := ((175, 264801), kk131, ll131)
def mr147 : Nat → Nat → Option Nat := u2 mr146 114 100 (some 178)
def kk132 : Nat → Nat := u1 kk131 179 20
def ll132 : Nat → Nat := u1 ll131 179 3
def sg132 : Shp := ((176, 264804), kk132, ll132)
def mr148 : Nat → Nat → Option Nat := u2 mr147 114 101 (some 179)
def kk133 : Nat → Nat := u1 kk132 180 21
def ll133 : Nat → Nat := u1 ll132 180 18
def sg133 : Shp := ((177, 264822), kk133, ll133)
def mr149 : Nat → Nat → Option Nat := u2 mr148 114 102 (some 180)
def kk134 : Nat → Nat := u1 kk133 181 20
def ll134 : Nat → Nat := u1 ll133 181 3
def sg134 : Shp := ((178, 264825), kk134, ll134)
def mr150 : Nat → Nat → Option Nat := u2 mr149 114 103 (some 181)
def kk135 : Nat → Nat := u1 kk134 182 20
def ll135 : Nat → Nat := u1 ll134 182 18
def sg135 : Shp := ((179, 264843), kk135, ll135)
def mr151 : Nat → Nat → Option Nat := u2 mr150 114 104 (some 182)
def kk136 : Nat → Nat := u1 kk135 183 20
def ll136 : Nat → Nat := u1 ll135 183 18
def sg136 : Shp := ((180, 264861), kk136, ll136)
def mr152 : Nat → Nat → Option Nat := u2 mr151 114 105 (some 183)
def kk137 : Nat → Nat := u1 kk136 184 21
def ll137 : Nat → Nat := u1 ll136 184 40
def sg137 : Shp := ((181, 264901), kk137, ll137)
def mr153 : Nat → Nat → Option Nat := u2 mr152 114 106 (some 184)
def kk138 : Nat → Nat := u1 kk137 185 21
def ll138 : Nat → Nat := u1 ll137 185 40
def sg138 : Shp := ((182, 264941), kk138, ll138)
def mr154 : Nat → Nat → Option Nat := u2 mr153 114 107 (some 185)
def kk139 : Nat → Nat := u1 kk138 186 21
def ll139 : Nat → Nat := u1 ll138 186 40
def sg139 : Shp := ((183, 264981), kk139, ll139)
def mr155 : Nat → Nat → Option Nat := u2 mr154 114 108 (some 186)
def kk140 : Nat → Nat := u1 kk139 187 25
def ll140 : Nat → Nat := u1 ll139 187 40
def sg140 : Shp := ((184, 265021), kk140, ll140)
def mr156 : Nat → Nat → Option Nat := u2 mr155 114 109 (some 187)
def kk141 : Nat → Nat := u1 kk140 188 20
def ll141 : Nat → Nat := u1 ll140 188 18
def sg141 : Shp := ((185, 265039), kk141, ll141)
def mr157 : Nat → Nat → Option Nat := u2 mr156 114 110 (some 188)
def kk142 : Nat → Nat := u1 kk141 189 21
def ll142 : Nat → Nat := u1 ll141 189 24
def sg142 : Shp := ((186, 265063), kk142, ll142)
def mr158 : Nat → Nat → Option Nat := u2 mr157 114 111 (some 189)
def kk143 : Nat → Nat := u1 kk142 190 21
def ll143 : Nat → Nat := u1 ll142 190 24
def sg143 : Shp := ((187, 265087), kk143, ll143)
def mr159 : Nat → Nat → Option Nat := u2 mr158 114 112 (some 190)
def kk144 : Nat → Nat := u1 kk143 191 20
def ll144 : Nat → Nat := u1 ll143 191 3
def sg144 : Shp := ((188, 265090), kk144, ll144)
def mr160 : Nat → Nat → Option Nat := u2 mr159 114 113 (some 191)
def kk145 : Nat → Nat := u1 kk144 192 21
def ll145 : Nat → Nat := u1 ll144 192 4
def sg145 : Shp := ((189, 265094), kk145, ll145)
def mr161 : Nat → Nat → Option Nat := u2 mr160 114 117 (some 192)
def kk146 : Nat → Nat := u1 kk145 193 21
def ll146 : Nat → Nat := u1 ll145 193 4
def sg146 : Shp := ((190, 265098), kk146, ll146)
def mr162 : Nat → Nat → Option Nat := u2 mr161 114 118 (some 193)
def kk147 : Nat → Nat := u1 kk146 194 21
def ll147 : Nat → Nat := u1 ll146 194 3
def sg147 : Shp := ((191, 265101), kk147, ll147)
def mr163 : Nat → Nat → Option Nat := u2 mr162 114 119 (some 194)
def kk148 : Nat → Nat := u1 kk147 195 21
def ll148 : Nat → Nat := u1 ll147 195 8
def sg148 : Shp := ((192, 265109), kk148, ll148)
def mr164 : Nat → Nat → Option Nat := u2 mr163 114 120 (some 195)
def kk149 : Nat → Nat := u1 kk148 196 20
def ll149 : Nat → Nat := u1 ll148 196 8
def sg149 : Shp := ((193, 265117), kk149, ll149)
def mr165 : Nat → Nat → Option Nat := u2 mr164 114 121 (some 196)
def kk150 : Nat → Nat := u1 kk149 197 20
def ll150 : Nat → Nat := u1 ll149 197 8
def sg150 : Shp := ((194, 265125), kk150, ll150)
def mr166 : Nat → Nat → Option Nat := u2 mr165 114 122 (some 197)
def kk151 : Nat → Nat := u1 kk150 198 20
def ll151 : Nat → Nat := u1 ll150 198 8
def sg151 : Shp := ((195, 265133), kk151, ll151)
def mr167 : Nat → Nat → Option Nat := u2 mr166 114 123 (some 198)
def kk152 : Nat → Nat := u1 kk151 199 21
def ll152 : Nat → Nat := u1 ll151 199 8
def sg152 : Shp := ((196, 265141), kk152, ll152)
def mr168 : Nat → Nat → Option Nat := u2 mr167 114 124 (some 199)
def kk153 : Nat → Nat := u1 kk152 200 20
def ll153 : Nat → Nat := u1 ll152 200 1280
def sg153 : Shp := ((197, 266421), kk153, ll153)
def mr169 : Nat → Nat → Option Nat := u2 mr168 114 127 (some 200)
def kk154 : Nat → Nat := u1 kk153 201 20
def ll154 : Nat → Nat := u1 ll153 201 64
def sg154 : Shp := ((198, 266485), kk154, ll154)
def mr170 : Nat → Nat → Option Nat := u2 mr169 114 128 (some 201)
def mi25 : Nat → Nat → Int32 := u2 mi24 114 132 (-1 : Int32)
set_option maxRecDepth 20000 in
theorem in7 : fX0_init_b10 sg5 mr1 7 8 = some (sg5, mr2) := by
  unfold fX0_init_b10
  refine sg (show kdx sg5 7 = 1 by decide +kernel) ?_
  exact rfl
set_option maxRecDepth 20000 in
theorem in6 : fX0_init sg4 mr1 7 = some (sg5, mr2) := by
  unfold fX0_init
  exact in7
set_option maxRecDepth 20000 in
theorem in17 : fX6_init_b61 sg13 mr9 9 16 = some (sg13, mr10) := by
  unfold fX6_init_b61
  refine sg (show kdx sg13 9 = 7 by decide +kernel) ?_
  exact rfl
set_option maxRecDepth 20000 in
theorem in16 : fX6_init_b53 9 sg12 mr8 9 15 = some (sg13, mr10) := by
  unfold fX6_init_b53
  refine sg (show kdx sg12 9 = 7 by decide +kernel) ?_
  exact in17
set_option maxRecDepth 20000 in
theorem in15 : fX6_init_b44 9 sg11 mr7 9 14 = some (sg13, mr10) := by
  unfold fX6_init_b44
  refine sg (show kdx sg11 9 = 7 by decide +kernel) ?_
  exact in16
set_option maxRecDepth 20000 in
theorem in14 : fX6_init_b35 9 sg10 mr6 9 13 = some (sg13, mr10) := by
  unfold fX6_init_b35
  refine sg (show kdx sg10 9 = 7 by decide +kernel) ?_
  exact in15
set_option maxRecDepth 20000 in
theorem in13 : fX6_init_b26 9 sg9 mr5 9 12 = some (sg13, mr10) := by
  unfold fX6_init_b26
  refine sg (show kdx sg9 9 = 7 by decide +kernel) ?_
  exact in14
set_option maxRecDepth 20000 in
theorem in12 : fX6_init_b17 9 sg8 mr4 9 11 = some (sg13, mr10) := by
  unfold fX6_init_b17
  refine sg (show kdx sg8 9 = 7 by decide +kernel) ?_
  exact in13
set_option maxRecDepth 20000 in
theorem in11 : fX6_init_b8 9 sg7 mr3 9 10 = some (sg13, mr10) := by
  unfold fX6_init_b8
  refine sg (show kdx sg7 9 = 7 by decide +kernel) ?_
  exact in12
set_option maxRecDepth 20000 in
theorem in10 : fX6_init sg6 mr3 9 = some (sg13, mr10) := by
  unfold fX6_init
  exact in11
set_option maxRecDepth 20000 in
theorem in26 : fX8_init_b51 sg20 mr16 17 23 = some (sg20, mr17) := by
  unfold fX8_init_b51
  refine sg (show kdx sg20 17 = 9 by decide +kernel) ?_
  exact rfl
set_option maxRecDepth 20000 in
theorem in25 : fX8_init_b42 17 sg19 mr15 17 22 = some (sg20, mr17) := by
  unfold fX8_init_b42
  refine sg (show kdx sg19 17 = 9 by decide +kernel) ?_
  exact in26
set_option maxRecDepth 20000 in
theorem in24 : fX8_init_b33 17 sg18 mr14 17 21 = some (sg20, mr17) := by
  unfold fX8_init_b33
  refine sg (show kdx sg18 17 = 9 by decide +kernel) ?_
  exact in25
set_option maxRecDepth 20000 in
theorem in23 : fX8_init_b23 17 sg17 mr13 17 20 = some (sg20, mr17) := by
  unfold fX8_init_b23
  refine sg (show kdx sg17 17 = 9 by decide +kernel) ?_
  exact in24
set_option maxRecDepth 20000 in
theorem in22 : fX8_init_b16 17 sg16 mr12 17 19 = some (sg20, mr17) := by
  unfold fX8_init_b16
  refine sg (show kdx sg16 17 = 9 by decide +kernel) ?_
  exact in23
set_option maxRecDepth 20000 in
theorem in21 : fX8_init_b9 17 sg15 mr11 17 18 = some (sg20, mr17) := by
  unfold fX8_init_b9
  refine sg (show kdx sg15 17 = 9 by decide +kernel) ?_
  exact in22
set_option maxRecDepth 20000 in
theorem in20 : fX8_init sg14 mr11 17 = some (sg20, mr17) := by
  unfold fX8_init
  exact in21
set_option maxRecDepth 20000 in
theorem in29 : fX7_init_b61 sg22 mr19 5 25 = some (sg22, mr20) := by
  unfold fX7_init_b61
  refine sg (show kdx sg22 5 = 8 by decide +kernel) ?_
  exact rfl
set_option maxRecDepth 20000 in
theorem in28 : fX7_init_b53 5 sg21 mr18 5 24 = some (sg22, mr20) := by
  unfold fX7_init_b53
  refine sg (show kdx sg21 5 = 8 by decide +kernel) ?_
  exact in29
set_option maxRecDepth 20000 in
theorem in27 : fX7_init_b43 5 sg20 mr17 5 17 = some (sg22, mr20) := by
  unfold fX7_init_b43
  refine sg (show kdx sg20 5 = 8 by decide +kernel) ?_
  exact in28
set_option maxRecDepth 20000 in
theorem in19 : fX7_init_b39 5 sg14 mr11 5 17 = some (sg22, mr20) := by
  unfold fX7_init_b39
  refine sg (show kdx sg14 17 = 9 by decide +kernel) ?_
  refine sb in20 ?_
  exact in27
set_option maxRecDepth 20000 in
theorem in18 : fX7_init_b32 5 sg13 mr10 5 9 = some (sg22, mr20) := by
  unfold fX7_init_b32
  refine sg (show kdx sg13 5 = 8 by decide +kernel) ?_
  exact in19
set_option maxRecDepth 20000 in
theorem in9 : fX7_init_b28 5 sg6 mr3 5 9 = some (sg22, mr20) := by
  unfold fX7_init_b28
  refine sg (show kdx sg6 9 = 7 by decide +kernel) ?_
  refine sb in10 ?_
  exact in18
set_option maxRecDepth 20000 in
theorem in8 : fX7_init_b21 5 sg5 mr2 5 7 = some (sg22, mr20) := by
  unfold fX7_init_b21
  refine sg (show kdx sg5 5 = 8 by decide +kernel) ?_
  exact in9
set_option maxRecDepth 20000 in
theorem in5 : fX7_init_b17 5 sg4 mr1 5 7 = some (sg22, mr20) := by
  unfold fX7_init_b17
  refine sg (show kdx sg4 7 = 1 by decide +kernel) ?_
  refine sb in6 ?_
  exact in8
set_option maxRecDepth 20000 in
theorem in4 : fX7_init_b10 5 sg3 zR 5 6 = some (sg22, mr20) := by
  unfold fX7_init_b10
  refine sg (show kdx sg3 5 = 8 by decide +kernel) ?_
  exact in5
set_option maxRecDepth 20000 in
theorem in3 : fX7_init sg2 zR 5 = some (sg22, mr20) := by
  unfold fX7_init
  exact in4
set_option maxRecDepth 20000 in
theorem in42 : fX9_init_b65 sg32 mr34 27 41 = some (sg32, mr35) := by
  unfold fX9_init_b65
  refine sg (show kdx sg32 27 = 10 by decide +kernel) ?_
  exact rfl
set_option maxRecDepth 20000 in
theorem in41 : fX9_init_b58 27 sg31 mr33 27 40 = some (sg32, mr35) := by
  unfold fX9_init_b58
  refine sg (show kdx sg31 27 = 10 by decide +kernel) ?_
  exact in42
set_option maxRecDepth 20000 in
theorem in40 : fX9_init_b51 27 sg30 mr32 27 39 = some (sg32, mr35) := by
  unfold fX9_init_b51
  refine sg (show kdx sg30 27 = 10 by decide +kernel) ?_
  exact in41
set_option maxRecDepth 20000 in
theorem in39 : fX9_init_b44 27 sg29 mr31 27 38 = some (sg32, mr35) := by
  unfold fX9_init_b44
  refine sg (show kdx sg29 27 = 10 by decide +kernel) ?_
  exact in40
set_option maxRecDepth 20000 in
theorem in38 : fX9_init_b37 27 sg28 mr30 27 37 = some (sg32, mr35) := by
  unfold fX9_init_b37
  refine sg (show kdx sg28 27 = 10 by decide +kernel) ?_
  exact in39
set_option maxRecDepth 20000 in
theorem in37 : fX9_init_b30 27 sg27 mr29 27 36 = some (sg32, mr35) := by
  unfold fX9_init_b30
  refine sg (show kdx sg27 27 = 10 by decide +kernel) ?_
  exact in38
set_option maxRecDepth 20000 in
theorem in36 : fX9_init_b23 27 sg26 mr28 27 32 = some (sg32, mr35) := by
  unfold fX9_init_b23
  refine sg (show kdx sg26 27 = 10 by decide +kernel) ?_
  exact in37
set_option maxRecDepth 20000 in
theorem in35 : fX9_init_b12 27 sg25 mr26 27 28 = some (sg32, mr35) := by
  unfold fX9_init_b12
  refine sg (show kdx sg25 27 = 10 by decide +kernel) ?_
  exact in36
set_option maxRecDepth 20000 in
theorem in34 : fX9_init sg24 mr25 27 = some (sg32, mr35) := by
  unfold fX9_init
  exact in35
set_option maxRecDepth 20000 in
theorem in68 (n : Nat) : fX4_init_l177 26 (n + 17) sg43 mi14 mj18 mdd1 mr51 (3 : Int32) = some (sg43, mi14, mj18, mdd1, mr51) := by
  rw [fX4_init_l177]
  refine (if_pos (by decide)).trans ?_
  exact rfl
set_option maxRecDepth 20000 in
theorem in67 (n : Nat) : fX4_init_l177 26 (n + 18) sg43 mi14 mj15 mdd1 mr51 (2 : Int32) = some (sg43, mi14, mj18, mdd1, mr51) := by
  rw [fX4_init_l177]
  refine (if_neg (by decide)).trans ?_
  refine sg (show kdx sg43 26 = 5 by decide +kernel) ?_
  refine sb (show mr51 26 5 = some 55 by decide +kernel) ?_
  refine sg (show kdx sg43 55 = 21 by decide +kernel) ?_
  refine sg (show ¬ ((2 : Int32) < 0 ∨ lnx sg43 55 ≤ Int32.toNatClampNeg (2 : Int32)) by decide +kernel) ?_
  refine sb (show mr51 26 8 = some 57 by decide +kernel) ?_
  refine sg (show kdx sg43 57 = 29 by decide +kernel) ?_
  refine sg (show ¬ ((2 : Int32) < 0 ∨ lnx sg43 57 ≤ Int32.toNatClampNeg (2 : Int32)) by decide +kernel) ?_
  refine sb (show mr51 57 (Int32.toNatClampNeg (2 : Int32)) = some 60 by decide +kernel) ?_
  refine sg (show kdx sg43 60 = 21 by decide +kernel) ?_
  refine sg (show ¬ ((0 : Int32) < 0 ∨ lnx sg43 60 ≤ Int32.toNatClampNeg (0 : Int32)) by decide +kernel) ?_
  refine sg (show ¬ ((1 : Int32) < 0 ∨ lnx sg43 60 ≤ Int32.toNatClampNeg (1 : Int32)) by decide +kernel) ?_
  exact in68 n
set_option maxRecDepth 20000 in
theorem in66 (n : Nat) : fX4_init_l177 26 (n + 19) sg43 mi14 mj12 mdd1 mr51 (1 : Int32) = some (sg43, mi14, mj18, mdd1, mr51) := by
  rw [fX4_init_l177]
  refine (if_neg (by decide)).trans ?_
  refine sg (show kdx sg43 26 = 5 by decide +kernel) ?_
  refine sb (show mr51 26 5 = some 55 by decide +kernel) ?_
  refine sg (show kdx sg43 55 = 21 by decide +kernel) ?_
  refine sg (show ¬ ((1 : Int32) < 0 ∨ lnx sg43 55 ≤ Int32.toNatClampNeg (1 : Int32)) by decide +kernel) ?_
  refine sb (show mr51 26 8 = some 57 by decide +kernel) ?_
  refine sg (show kdx sg43 57 = 29 by decide +kernel) ?_
  refine sg (show ¬ ((1 : Int32) < 0 ∨ lnx sg43 57 ≤ Int32.toNatClampNeg (1 : Int32)) by decide +kernel) ?_
  refine sb (show mr51 57 (Int32.toNatClampNeg (1 : Int32)) = some 59 by decide +kernel) ?_
  refine sg (show kdx sg43 59 = 21 by decide +kernel) ?_
  refine sg (show ¬ ((0 : Int32) < 0 ∨ lnx sg43 59 ≤ Int32.toNatClampNeg (0 : Int32)) by decide +kernel) ?_
  refine sg (show ¬ ((1 : Int32) < 0 ∨ lnx sg43 59 ≤ Int32.toNatClampNeg (1 : Int32)) by decide +kernel) ?_
  exact in67 n
set_option maxRecDepth 20000 in
theorem in65 (n : Nat) : fX4_init_l177 26 (n + 20) sg43 mi14 mj9 mdd1 mr51 (0 : Int32) = some (sg43, mi14, mj18, mdd1, mr51) := by
  rw [fX4_init_l177]
  refine (if_neg (by decide)).trans ?_
  refine sg (show kdx sg43 26 = 5 by decide +kernel) ?_
  refine sb (show mr51 26 5 = some 55 by decide +kernel) ?_
  refine sg (show kdx sg43 55 = 21 by decide +kernel) ?_
  refine sg (show ¬ ((0 : Int32) < 0 ∨ lnx sg43 55 ≤ Int32.toNatClampNeg (0 : Int32)) by decide +kernel) ?_
  refine sb (show mr51 26 8 = some 57 by decide +kernel) ?_
  refine sg (show kdx sg43 57 = 29 by decide +kernel) ?_
  refine sg (show ¬ ((0 : Int32) < 0 ∨ lnx sg43 57 ≤ Int32.toNatClampNeg (0 : Int32)) by decide +kernel) ?_
  refine sb (show mr51 57 (Int32.toNatClampNeg (0 : Int32)) = some 58 by decide +kernel) ?_
  refine sg (show kdx sg43 58 = 21 by decide +kernel) ?_
  refine sg (show ¬ ((0 : Int32) < 0 ∨ lnx sg43 58 ≤ Int32.toNatClampNeg (0 : Int32)) by decide +kernel) ?_
  refine sg (show ¬ ((1 : Int32) < 0 ∨ lnx sg43 58 ≤ Int32.toNatClampNeg (1 : Int32)) by decide +kernel) ?_
  exact in66 n
set_option maxRecDepth 20000 in
theorem in64 (n : Nat) : fX4_init_l145 26 (n + 11) sg43 mi14 mj9 mdd1 mr51 (9 : Int32) = some (sg43, mi14, mj18, mdd1, mr51) := by
  rw [fX4_init_l145]
  refine (if_pos (by decide)).trans ?_
  rw [show FUx = 1999980 + 20 from FUx_eq]
  exact in65 1999980
set_option maxRecDepth 20000 in
theorem in63 (n : Nat) : fX4_init_l145 26 (n + 12) sg43 mi13 mj8 mdd1 mr51 (8 : Int32) = some (sg43, mi14, mj18, mdd1, mr51) := by
  rw [fX4_init_l145]
  refine (if_neg (by decide)).trans ?_
  refine sg (show kdx sg43 26 = 5 by decide +kernel) ?_
  refine sb (show mr51 26 2 = some 52 by decide +kernel) ?_
  refine sg (show kdx sg43 52 = 21 by decide +kernel) ?_
  refine sg (show ¬ ((8 : Int32) < 0 ∨ lnx sg43 52 ≤ Int32.toNatClampNeg (8 : Int32)) by decide +kernel) ?_
  refine sb (show mr51 26 1 = some 42 by decide +kernel) ?_
  refine sg (show kdx sg43 42 = 28 by decide +kernel) ?_
  refine sg (show ¬ ((8 : Int32) < 0 ∨ lnx sg43 42 ≤ Int32.toNatClampNeg (8 : Int32)) by decide +kernel) ?_
  refine sb (show mr51 42 (Int32.toNatClampNeg (8 : Int32)) = some 51 by decide +kernel) ?_
  refine sg (show kdx sg43 51 = 20 by decide +kernel) ?_
  refine sg (show ¬ ((0 : Int32) < 0 ∨ lnx sg43 51 ≤ Int32.toNatClampNeg (0 : Int32)) by decide +kernel) ?_
  exact in64 n
set_option maxRecDepth 20000 in
theorem in62 (n : Nat) : fX4_init_l145 26 (n + 13) sg43 mi12 mj7 mdd1 mr51 (7 : Int32) = some (sg43, mi14, mj18, mdd1, mr51) := by
  rw [fX4_init_l145]
  refine (if_neg (by decide)).trans ?_
  refine sg (show kdx sg43 26 = 5 by decide +kernel) ?_
  refine sb (show mr51 26 2 = some 52 by decide +kernel) ?_
  refine sg (show kdx sg43 52 = 21 by decide +kernel) ?_
  refine sg (show ¬ ((7 : Int32) < 0 ∨ lnx sg43 52 ≤ Int32.toNatClampNeg (7 : Int32)) by decide +kernel) ?_
  refine sb (show mr51 26 1 = some 42 by decide +kernel) ?_
  refine sg (show kdx sg43 42 = 28 by decide +kernel) ?_
  refine sg (show ¬ ((7 : Int32) < 0 ∨ lnx sg43 42 ≤ Int32.toNatClampNeg (7 : Int32)) by decide +kernel) ?_
  refine sb (show mr51 42 (Int32.toNatClampNeg (7 : Int32)) = some 50 by decide +kernel) ?_
  refine sg (show kdx sg43 50 = 20 by decide +kernel) ?_
  refine sg (show ¬ ((0 : Int32) < 0 ∨ lnx sg43 50 ≤ Int32.toNatClampNeg (0 : Int32)) by decide +kernel) ?_
  exact in63 n
set_option maxRecDepth 20000 in
theorem in61 (n : Nat) : fX4_init_l145 26 (n + 14) sg43 mi11 mj6 mdd1 mr51 (6 : Int32) = some (sg43, mi14, mj18, mdd1, mr51) := by
  rw [fX4_init_l145]
  refine (if_neg (by decide)).trans ?_
  refine sg (show kdx sg43 26 = 5 by decide +kernel) ?_
  refine sb (show mr51 26 2 = some 52 by decide +kernel) ?_
  refine sg (show kdx sg43 52 = 21 by decide +kernel) ?_
  refine sg (show ¬ ((6 : Int32) < 0 ∨ lnx sg43 52 ≤ Int32.toNatClampNeg (6 : Int32)) by decide +kernel) ?_
  refine sb (show mr51 26 1 = some 42 by decide +kernel) ?_
  refine sg (show kdx sg43 42 = 28 by decide +kernel) ?_
  refine sg (show ¬ ((6 : Int32) < 0 ∨ lnx sg43 42 ≤ Int32.toNatClampNeg (6 : Int32)) by decide +kernel) ?_
  refine sb (show mr51 42 (Int32.toNatClampNeg (6 : Int32)) = some 49 by decide +kernel) ?_
  refine sg (show kdx sg43 49 = 20 by decide +kernel) ?_
  refine sg (show ¬ ((0 : Int32) < 0 ∨ lnx sg43 49 ≤ Int32.toNatClampNeg (0 : Int32)) by decide +kernel) ?_
  exact in62 n
set_option maxRecDepth 20000 in
theorem in60 (n : Nat) : fX4_init_l145 26 (n + 15) sg43 mi10 mj5 mdd1 mr51 (5 : Int32) = some (sg43, mi14, mj18, mdd1, mr51) := by
  rw [fX4_init_l145]
  refine (if_neg (by decide)).trans ?_
  refine sg (show kdx sg43 26 = 5 by decide +kernel) ?_
  refine sb (show mr51 26 2 = some 52 by decide +kernel) ?_
  refine sg (show kdx sg43 52 = 21 by decide +kernel) ?_
  refine sg (show ¬ ((5 : Int32) < 0 ∨ lnx sg43 52 ≤ Int32.toNatClampNeg (5 : Int32)) by decide +kernel) ?_
  refine sb (show mr51 26 1 = some 42 by decide +kernel) ?_
  refine sg (show kdx sg43 42 = 28 by decide +kernel) ?_
  refine sg (show ¬ ((5 : Int32) < 0 ∨ lnx sg43 42 ≤ Int32.toNatClampNeg (5 : Int32)) by decide +kernel) ?_
  refine sb (show mr51 42 (Int32.toNatClampNeg (5 : Int32)) = some 48 by decide +kernel) ?_
  refine sg (show kdx sg43 48 = 20 by decide +kernel) ?_
  refine sg (show ¬ ((0 : Int32) < 0 ∨ lnx sg43 48 ≤ Int32.toNatClampNeg (0 : Int32)) by decide +kernel) ?_
  exact in61 n
set_option maxRecDepth 20000 in
theorem in59 (n : Nat) : fX4_init_l145 26 (n + 16) sg43 mi9 mj4 mdd1 mr51 (4 : Int32) = some (sg43, mi14, mj18, mdd1, mr51) := by
  rw [fX4_init_l145]
  refine (if_neg (by decide)).trans ?_
  refine sg (show kdx sg43 26 = 5 by decide +kernel) ?_
  refine sb (show mr51 26 2 = some 52 by decide +kernel) ?_
  refine sg (show kdx sg43 52 = 21 by decide +kernel) ?_
  refine sg (show ¬ ((4 : Int32) < 0 ∨ lnx sg43 52 ≤ Int32.toNatClampNeg (4 : Int32)) by decide +kernel) ?_
  refine sb (show mr51 26 1 = some 42 by decide +kernel) ?_
  refine sg (show kdx sg43 42 = 28 by decide +kernel) ?_
  refine sg (show ¬ ((4 : Int32) < 0 ∨ lnx sg43 42 ≤ Int32.toNatClampNeg (4 : Int32)) by decide +kernel) ?_
  refine sb (show mr51 42 (Int32.toNatClampNeg (4 : Int32)) = some 47 by decide +kernel) ?_
  refine sg (show kdx sg43 47 = 20 by decide +kernel) ?_
  refine sg (show ¬ ((0 : Int32) < 0 ∨ lnx sg43 47 ≤ Int32.toNatClampNeg (0 : Int32)) by decide +kernel) ?_
  exact in60 n
set_option maxRecDepth 20000 in
theorem in58 (n : Nat) : fX4_init_l145 26 (n + 17) sg43 mi8 mj3 mdd1 mr51 (3 : Int32) = some (sg43, mi14, mj18, mdd1, mr51) := by
  rw [fX4_init_l145]
  refine (if_neg (by decide)).trans ?_
  refine sg (show kdx sg43 26 = 5 by decide +kernel) ?_
  refine sb (show mr51 26 2 = some 52 by decide +kernel) ?_
  refine sg (show kdx sg43 52 = 21 by decide +kernel) ?_
  refine sg (show ¬ ((3 : Int32) < 0 ∨ lnx sg43 52 ≤ Int32.toNatClampNeg (3 : Int32)) by decide +kernel) ?_
  refine sb (show mr51 26 1 = some 42 by decide +kernel) ?_
  refine sg (show kdx sg43 42 = 28 by decide +kernel) ?_
  refine sg (show ¬ ((3 : Int32) < 0 ∨ lnx sg43 42 ≤ Int32.toNatClampNeg (3 : Int32)) by decide +kernel) ?_
  refine sb (show mr51 42 (Int32.toNatClampNeg (3 : Int32)) = some 46 by decide +kernel) ?_
  refine sg (show kdx sg43 46 = 20 by decide +kernel) ?_
  refine sg (show ¬ ((0 : Int32) < 0 ∨ lnx sg43 46 ≤ Int32.toNatClampNeg (0 : Int32)) by decide +kernel) ?_
  exact in59 n
set_option maxRecDepth 20000 in
theorem in57 (n : Nat) : fX4_init_l145 26 (n + 18) sg43 mi7 mj2 mdd1 mr51 (2 : Int32) = some (sg43, mi14, mj18, mdd1, mr51) := by
  rw [fX4_init_l145]
  refine (if_neg (by decide)).trans ?_
  refine sg (show kdx sg43 26 = 5 by decide +kernel) ?_
  refine sb (show mr51 26 2 = some 52 by decide +kernel) ?_
  refine sg (show kdx sg43 52 = 21 by decide +kernel) ?_
  refine sg (show ¬ ((2 : Int32) < 0 ∨ lnx sg43 52 ≤ Int32.toNatClampNeg (2 : Int32)) by decide +kernel) ?_
  refine sb (show mr51 26 1 = some 42 by decide +kernel) ?_
  refine sg (show kdx sg43 42 = 28 by decide +kernel) ?_
  refine sg (show ¬ ((2 : Int32) < 0 ∨ lnx sg43 42 ≤ Int32.toNatClampNeg (2 : Int32)) by decide +kernel) ?_
  refine sb (show mr51 42 (Int32.toNatClampNeg (2 : Int32)) = some 45 by decide +kernel) ?_
  refine sg (show kdx sg43 45 = 20 by decide +kernel) ?_
  refine sg (show ¬ ((0 : Int32) < 0 ∨ lnx sg43 45 ≤ Int32.toNatClampNeg (0 : Int32)) by decide +kernel) ?_
  exact in58 n
set_option maxRecDepth 20000 in
theorem in56 (n : Nat) : fX4_init_l145 26 (n + 19) sg43 mi6 mj1 mdd1 mr51 (1 : Int32) = some (sg43, mi14, mj18, mdd1, mr51) := by
  rw [fX4_init_l145]
  refine (if_neg (by decide)).trans ?_
  refine sg (show kdx sg43 26 = 5 by decide +kernel) ?_
  refine sb (show mr51 26 2 = some 52 by decide +kernel) ?_
  refine sg (show kdx sg43 52 = 21 by decide +kernel) ?_
  refine sg (show ¬ ((1 : Int32) < 0 ∨ lnx sg43 52 ≤ Int32.toNatClampNeg (1 : Int32)) by decide +kernel) ?_
  refine sb (show mr51 26 1 = some 42 by decide +kernel) ?_
  refine sg (show kdx sg43 42 = 28 by decide +kernel) ?_
  refine sg (show ¬ ((1 : Int32) < 0 ∨ lnx sg43 42 ≤ Int32.toNatClampNeg (1 : Int32)) by decide +kernel) ?_
  refine sb (show mr51 42 (Int32.toNatClampNeg (1 : Int32)) = some 44 by decide +kernel) ?_
  refine sg (show kdx sg43 44 = 20 by decide +kernel) ?_
  refine sg (show ¬ ((0 : Int32) < 0 ∨ lnx sg43 44 ≤ Int32.toNatClampNeg (0 : Int32)) by decide +kernel) ?_
  exact in57 n
set_option maxRecDepth 20000 in
theorem in55 (n : Nat) : fX4_init_l145 26 (n + 20) sg43 mi5 zJ mdd1 mr51 (0 : Int32) = some (sg43, mi14, mj18, mdd1, mr51) := by
  rw [fX4_init_l145]
  refine (if_neg (by decide)).trans ?_
  refine sg (show kdx sg43 26 = 5 by decide +kernel) ?_
  refine sb (show mr51 26 2 = some 52 by decide +kernel) ?_
  refine sg (show kdx sg43 52 = 21 by decide +kernel) ?_
  refine sg (show ¬ ((0 : Int32) < 0 ∨ lnx sg43 52 ≤ Int32.toNatClampNeg (0 : Int32)) by decide +kernel) ?_
  refine sb (show mr51 26 1 = some 42 by decide +kernel) ?_
  refine sg (show kdx sg43 42 = 28 by decide +kernel) ?_
  refine sg (show ¬ ((0 : Int32) < 0 ∨ lnx sg43 42 ≤ Int32.toNatClampNeg (0 : Int32)) by decide +kernel) ?_
  refine sb (show mr51 42 (Int32.toNatClampNeg (0 : Int32)) = some 43 by decide +kernel) ?_
  refine sg (show kdx sg43 43 = 20 by decide +kernel) ?_
  refine sg (show ¬ ((0 : Int32) < 0 ∨ lnx sg43 43 ≤ Int32.toNatClampNeg (0 : Int32)) by decide +kernel) ?_
  exact in56 n
set_option maxRecDepth 20000 in
theorem in54 : fX4_init_b140 26 sg43 mi5 zJ mdd1 mr50 26 70 = some (sg43, mi14, mj18, mdd1, mr51) := by
  unfold fX4_init_b140
  refine sg (show kdx sg43 26 = 5 by decide +kernel) ?_
  rw [show FUx = 1999980 + 20 from FUx_eq]
  exact in55 1999980
set_option maxRecDepth 20000 in
theorem in53 : fX4_init_b133 26 sg42 mi5 zJ mdd1 mr49 26 66 = some (sg43, mi14, mj18, mdd1, mr51) := by
  unfold fX4_init_b133
  refine sg (show kdx sg42 26 = 5 by decide +kernel) ?_
  exact in54
set_option maxRecDepth 20000 in
theorem in52 : fX4_init_b122 26 sg41 mi5 zJ mdd1 mr47 26 62 = some (sg43, mi14, mj18, mdd1, mr51) := by
  unfold fX4_init_b122
  refine sg (show kdx sg41 26 = 5 by decide +kernel) ?_
  exact in53
set_option maxRecDepth 20000 in
theorem in51 : fX4_init_b87 26 sg40 zI zJ mdd1 mr45 26 61 = some (sg43, mi14, mj18, mdd1, mr51) := by
  unfold fX4_init_b87
  refine sg (show kdx sg40 61 = 20 by decide +kernel) ?_
  refine sg (show ¬ ((0 : Int32) < 0 ∨ lnx sg40 61 ≤ Int32.toNatClampNeg (0 : Int32)) by decide +kernel) ?_
  refine sg (show ¬ ((1 : Int32) < 0 ∨ lnx sg40 61 ≤ Int32.toNatClampNeg (1 : Int32)) by decide +kernel) ?_
  refine sg (show ¬ ((2 : Int32) < 0 ∨ lnx sg40 61 ≤ Int32.toNatClampNeg (2 : Int32)) by decide +kernel) ?_
  refine sg (show ¬ ((3 : Int32) < 0 ∨ lnx sg40 61 ≤ Int32.toNatClampNeg (3 : Int32)) by decide +kernel) ?_
  refine sg (show ¬ ((4 : Int32) < 0 ∨ lnx sg40 61 ≤ Int32.toNatClampNeg (4 : Int32)) by decide +kernel) ?_
  refine sg (show kdx sg40 26 = 5 by decide +kernel) ?_
  exact in52
set_option maxRecDepth 20000 in
theorem in50 : fX4_init_b80 26 sg39 zI zJ mdd1 mr44 26 57 = some (sg43, mi14, mj18, mdd1, mr51) := by
  unfold fX4_init_b80
  refine sg (show kdx sg39 26 = 5 by decide +kernel) ?_
  exact in51
set_option maxRecDepth 20000 in
theorem in49 : fX4_init_b62 26 sg38 zI zJ zD mr42 26 56 = some (sg43, mi14, mj18, mdd1, mr51) := by
  unfold fX4_init_b62
  refine sg (show kdx sg38 26 = 5 by decide +kernel) ?_
  refine sg (show kdx sg38 26 = 5 by decide +kernel) ?_
  exact in50
set_option maxRecDepth 20000 in
theorem in48 : fX4_init_b54 26 sg37 zI zJ zD mr41 26 55 = some (sg43, mi14, mj18, mdd1, mr51) := by
  unfold fX4_init_b54
  refine sg (show kdx sg37 26 = 5 by decide +kernel) ?_
  exact in49
set_option maxRecDepth 20000 in
theorem in47 : fX4_init_b47 26 sg36 zI zJ zD mr40 26 54 = some (sg43, mi14, mj18, mdd1, mr51) := by
  unfold fX4_init_b47
  refine sg (show kdx sg36 26 = 5 by decide +kernel) ?_
  exact in48
set_option maxRecDepth 20000 in
theorem in46 : fX4_init_b39 26 sg35 zI zJ zD mr39 26 53 = some (sg43, mi14, mj18, mdd1, mr51) := by
  unfold fX4_init_b39
  refine sg (show kdx sg35 26 = 5 by decide +kernel) ?_
  exact in47
set_option maxRecDepth 20000 in
theorem in45 : fX4_init_b31 26 sg34 zI zJ zD mr38 26 52 = some (sg43, mi14, mj18, mdd1, mr51) := by
  unfold fX4_init_b31
  refine sg (show kdx sg34 26 = 5 by decide +kernel) ?_
  exact in46
set_option maxRecDepth 20000 in
theorem in44 : fX4_init_b23 26 sg33 zI zJ zD mr37 26 42 = some (sg43, mi14, mj18, mdd1, mr51) := by
  unfold fX4_init_b23
  refine sg (show kdx sg33 26 = 5 by decide +kernel) ?_
  exact in45
set_option maxRecDepth 20000 in
theorem in43 : fX4_init_b12 26 sg32 zI zJ zD mr35 26 27 = some (sg43, mi14, mj18, mdd1, mr51) := by
  unfold fX4_init_b12
  refine sg (show kdx sg32 26 = 5 by decide +kernel) ?_
  exact in44
set_option maxRecDepth 20000 in
theorem in33 : fX4_init_b8 26 sg24 zI zJ zD mr25 26 27 = some (sg43, mi14, mj18, mdd1, mr51) := by
  unfold fX4_init_b8
  refine sg (show kdx sg24 27 = 10 by decide +kernel) ?_
  refine sb in34 ?_
  exact in43
set_option maxRecDepth 20000 in
theorem in32 : fX4_init sg23 zI zJ zD mr25 26 = some (sg43, mi14, mj18, mdd1, mr51) := by
  unfold fX4_init
  exact in33
set_option maxRecDepth 20000 in
theorem in78 : fX2_init_b62 sg51 mr62 71 90 = some (sg51, mr63) := by
  unfold fX2_init_b62
  refine sg (show kdx sg51 71 = 3 by decide +kernel) ?_
  exact rfl
set_option maxRecDepth 20000 in
theorem in77 : fX2_init_b55 71 sg50 mr61 71 89 = some (sg51, mr63) := by
  unfold fX2_init_b55
  refine sg (show kdx sg50 71 = 3 by decide +kernel) ?_
  exact in78
set_option maxRecDepth 20000 in
theorem in76 : fX2_init_b48 71 sg49 mr60 71 88 = some (sg51, mr63) := by
  unfold fX2_init_b48
  refine sg (show kdx sg49 71 = 3 by decide +kernel) ?_
  exact in77
set_option maxRecDepth 20000 in
theorem in75 : fX2_init_b41 71 sg48 mr59 71 87 = some (sg51, mr63) := by
  unfold fX2_init_b41
  refine sg (show kdx sg48 71 = 3 by decide +kernel) ?_
  exact in76
set_option maxRecDepth 20000 in
theorem in74 : fX2_init_b34 71 sg47 mr58 71 83 = some (sg51, mr63) := by
  unfold fX2_init_b34
  refine sg (show kdx sg47 71 = 3 by decide +kernel) ?_
  exact in75
set_option maxRecDepth 20000 in
theorem in73 : fX2_init_b23 71 sg46 mr56 71 79 = some (sg51, mr63) := by
  unfold fX2_init_b23
  refine sg (show kdx sg46 71 = 3 by decide +kernel) ?_
  exact in74
set_option maxRecDepth 20000 in
theorem in72 : fX2_init_b12 71 sg45 mr54 71 72 = some (sg51, mr63) := by
  unfold fX2_init_b12
  refine sg (show kdx sg45 71 = 3 by decide +kernel) ?_
  exact in73
set_option maxRecDepth 20000 in
theorem in71 : fX2_init sg44 mr53 71 = some (sg51, mr63) := by
  unfold fX2_init
  exact in72
set_option maxRecDepth 20000 in
theorem in89 : fX5_init_b69 sg60 mr75 91 107 = some (sg60, mr76) := by
  unfold fX5_init_b69
  refine sg (show kdx sg60 91 = 6 by decide +kernel) ?_
  exact rfl
set_option maxRecDepth 20000 in
theorem in88 : fX5_init_b62 91 sg59 mr74 91 106 = some (sg60, mr76) := by
  unfold fX5_init_b62
  refine sg (show kdx sg59 91 = 6 by decide +kernel) ?_
  exact in89
set_option maxRecDepth 20000 in
theorem in87 : fX5_init_b55 91 sg58 mr73 91 105 = some (sg60, mr76) := by
  unfold fX5_init_b55
  refine sg (show kdx sg58 91 = 6 by decide +kernel) ?_
  exact in88
set_option maxRecDepth 20000 in
theorem in86 : fX5_init_b48 91 sg57 mr72 91 104 = some (sg60, mr76) := by
  unfold fX5_init_b48
  refine sg (show kdx sg57 91 = 6 by decide +kernel) ?_
  exact in87
set_option maxRecDepth 20000 in
theorem in85 : fX5_init_b41 91 sg56 mr71 91 101 = some (sg60, mr76) := by
  unfold fX5_init_b41
  refine sg (show kdx sg56 91 = 6 by decide +kernel) ?_
  exact in86
set_option maxRecDepth 20000 in
theorem in84 : fX5_init_b31 91 sg55 mr69 91 98 = some (sg60, mr76) := by
  unfold fX5_init_b31
  refine sg (show kdx sg55 91 = 6 by decide +kernel) ?_
  exact in85
set_option maxRecDepth 20000 in
theorem in83 : fX5_init_b21 91 sg54 mr67 91 95 = some (sg60, mr76) := by
  unfold fX5_init_b21
  refine sg (show kdx sg54 91 = 6 by decide +kernel) ?_
  exact in84
set_option maxRecDepth 20000 in
theorem in82 : fX5_init_b11 91 sg53 mr65 91 92 = some (sg60, mr76) := by
  unfold fX5_init_b11
  refine sg (show kdx sg53 91 = 6 by decide +kernel) ?_
  exact in83
set_option maxRecDepth 20000 in
theorem in81 : fX5_init sg52 mr64 91 = some (sg60, mr76) := by
  unfold fX5_init
  exact in82
set_option maxRecDepth 20000 in
theorem in95 : fX1_init_b26 108 sg64 mi14 mr79 108 111 = some (sg64, mi15, mr80) := by
  unfold fX1_init_b26
  refine sg (show kdx sg64 108 = 2 by decide +kernel) ?_
  refine sg (show kdx sg64 108 = 2 by decide +kernel) ?_
  exact rfl
set_option maxRecDepth 20000 in
theorem in94 : fX1_init_b18 108 sg63 mi14 mr78 108 110 = some (sg64, mi15, mr80) := by
  unfold fX1_init_b18
  refine sg (show kdx sg63 108 = 2 by decide +kernel) ?_
  exact in95
set_option maxRecDepth 20000 in
theorem in93 : fX1_init_b10 108 sg62 mi14 mr77 108 109 = some (sg64, mi15, mr80) := by
  unfold fX1_init_b10
  refine sg (show kdx sg62 108 = 2 by decide +kernel) ?_
  exact in94
set_option maxRecDepth 20000 in
theorem in92 : fX1_init sg61 mi14 mr77 108 = some (sg64, mi15, mr80) := by
  unfold fX1_init
  exact in93
set_option maxRecDepth 20000 in
theorem in98 : fX11_init_b127 sg66 mi15 mj18 mdd1 mr82 4 113 = some (sg66, mi15, mj18, mdd1, mr83) := by
  unfold fX11_init_b127
  refine sg (show kdx sg66 4 = 12 by decide +kernel) ?_
  exact rfl
set_option maxRecDepth 20000 in
theorem in97 : fX11_init_b119 4 sg65 mi15 mj18 mdd1 mr81 4 112 = some (sg66, mi15, mj18, mdd1, mr83) := by
  unfold fX11_init_b119
  refine sg (show kdx sg65 4 = 12 by decide +kernel) ?_
  exact in98
set_option maxRecDepth 20000 in
theorem in96 : fX11_init_b111 4 sg64 mi15 mj18 mdd1 mr80 4 108 = some (sg66, mi15, mj18, mdd1, mr83) := by
  unfold fX11_init_b111
  refine sg (show kdx sg64 4 = 12 by decide +kernel) ?_
  exact in97
set_option maxRecDepth 20000 in
theorem in91 : fX11_init_b107 4 sg61 mi14 mj18 mdd1 mr77 4 108 = some (sg66, mi15, mj18, mdd1, mr83) := by
  unfold fX11_init_b107
  refine sg (show kdx sg61 108 = 2 by decide +kernel) ?_
  refine sb in92 ?_
  exact in96
set_option maxRecDepth 20000 in
theorem in90 : fX11_init_b100 4 sg60 mi14 mj18 mdd1 mr76 4 91 = some (sg66, mi15, mj18, mdd1, mr83) := by
  unfold fX11_init_b100
  refine sg (show kdx sg60 4 = 12 by decide +kernel) ?_
  exact in91
set_option maxRecDepth 20000 in
theorem in80 : fX11_init_b96 4 sg52 mi14 mj18 mdd1 mr64 4 91 = some (sg66, mi15, mj18, mdd1, mr83) := by
  unfold fX11_init_b96
  refine sg (show kdx sg52 91 = 6 by decide +kernel) ?_
  refine sb in81 ?_
  exact in90
set_option maxRecDepth 20000 in
theorem in79 : fX11_init_b89 4 sg51 mi14 mj18 mdd1 mr63 4 71 = some (sg66, mi15, mj18, mdd1, mr83) := by
  unfold fX11_init_b89
  refine sg (show kdx sg51 4 = 12 by decide +kernel) ?_
  exact in80
set_option maxRecDepth 20000 in
theorem in70 : fX11_init_b85 4 sg44 mi14 mj18 mdd1 mr53 4 71 = some (sg66, mi15, mj18, mdd1, mr83) := by
  unfold fX11_init_b85
  refine sg (show kdx sg44 71 = 3 by decide +kernel) ?_
  refine sb in71 ?_
  exact in79
set_option maxRecDepth 20000 in
theorem in69 : fX11_init_b67 4 sg43 mi14 mj18 mdd1 mr51 4 26 = some (sg66, mi15, mj18, mdd1, mr83) := by
  unfold fX11_init_b67
  refine sg (show kdx sg43 4 = 12 by decide +kernel) ?_
  refine sg (show kdx sg43 4 = 12 by decide +kernel) ?_
  refine sb (show mr52 4 5 = some 26 by decide +kernel) ?_
  refine sg (show kdx sg43 26 = 5 by decide +kernel) ?_
  refine sb (show mr52 26 0 = some 27 by decide +kernel) ?_
  exact in70
set_option maxRecDepth 20000 in
theorem in31 : fX11_init_b63 4 sg23 zI zJ zD mr25 4 26 = some (sg66, mi15, mj18, mdd1, mr83) := by
  unfold fX11_init_b63
  refine sg (show kdx sg23 26 = 5 by decide +kernel) ?_
  refine sb in32 ?_
  exact in69
set_option maxRecDepth 20000 in
theorem in30 : fX11_init_b12 4 sg22 zI zJ zD mr20 4 5 = some (sg66, mi15, mj18, mdd1, mr83) := by
  unfold fX11_init_b12
  refine sg (show kdx sg22 4 = 12 by decide +kernel) ?_
  refine sg (show kdx sg22 4 = 12 by decide +kernel) ?_
  refine sb (show mr21 4 0 = some 5 by decide +kernel) ?_
  refine sg (show kdx sg22 5 = 8 by decide +kernel) ?_
  refine sb (show mr21 5 0 = some 6 by decide +kernel) ?_
  refine sb (show mr22 4 0 = some 5 by decide +kernel) ?_
  refine sg (show kdx sg22 5 = 8 by decide +kernel) ?_
  refine sb (show mr22 5 1 = some 7 by decide +kernel) ?_
  refine sb (show mr23 4 0 = some 5 by decide +kernel) ?_
  refine sg (show kdx sg22 5 = 8 by decide +kernel) ?_
  refine sb (show mr23 5 2 = some 9 by decide +kernel) ?_
  refine sb (show mr24 4 0 = some 5 by decide +kernel) ?_
  refine sg (show kdx sg22 5 = 8 by decide +kernel) ?_
  refine sb (show mr24 5 3 = some 17 by decide +kernel) ?_
  exact in31
set_option maxRecDepth 20000 in
theorem in2 : fX11_init_b8 4 sg2 zI zJ zD zR 4 5 = some (sg66, mi15, mj18, mdd1, mr83) := by
  unfold fX11_init_b8
  refine sg (show kdx sg2 5 = 8 by decide +kernel) ?_
  refine sb in3 ?_
  exact in30
set_option maxRecDepth 20000 in
theorem in1 : fX11_init sg1 zI zJ zD zR 4 = some (sg66, mi15, mj18, mdd1, mr83) := by
  unfold fX11_init
  exact in2
set_option maxRecDepth 20000 in
theorem in186 : fX12_init_b864 114 sg154 mi24 mj36 mdd2 mr169 114 201 = some (sg154, mi25, mj36, mdd2, mr170) := by
  unfold fX12_init_b864
  refine sg (show kdx sg154 114 = 13 by decide +kernel) ?_
  refine sg (show kdx sg154 114 = 13 by decide +kernel) ?_
  exact rfl
set_option maxRecDepth 20000 in
theorem in185 : fX12_init_b856 114 sg153 mi24 mj36 mdd2 mr168 114 200 = some (sg154, mi25, mj36, mdd2, mr170) := by
  unfold fX12_init_b856
  refine sg (show kdx sg153 114 = 13 by decide +kernel) ?_
  exact in186
set_option maxRecDepth 20000 in
theorem in184 : fX12_init_b847 114 sg152 mi24 mj36 mdd2 mr167 114 199 = some (sg154, mi25, mj36, mdd2, mr170) := by
  unfold fX12_init_b847
  refine sg (show kdx sg152 114 = 13 by decide +kernel) ?_
  exact in185
set_option maxRecDepth 20000 in
theorem in183 : fX12_init_b839 114 sg151 mi24 mj36 mdd2 mr166 114 198 = some (sg154, mi25, mj36, mdd2, mr170) := by
  unfold fX12_init_b839
  refine sg (show kdx sg151 114 = 13 by decide +kernel) ?_
  exact in184
set_option maxRecDepth 20000 in
theorem in182 : fX12_init_b831 114 sg150 mi24 mj36 mdd2 mr165 114 197 = some (sg154, mi25, mj36, mdd2, mr170) := by
  unfold fX12_init_b831
  refine sg (show kdx sg150 114 = 13 by decide +kernel) ?_
  exact in183
set_option maxRecDepth 20000 in
theorem in181 : fX12_init_b823 114 sg149 mi24 mj36 mdd2 mr164 114 196 = some (sg154, mi25, mj36, mdd2, mr170) := by
  unfold fX12_init_b823
  refine sg (show kdx sg149 114 = 13 by decide +kernel) ?_
  exact in182
set_option maxRecDepth 20000 in
theorem in180 : fX12_init_b815 114 sg148 mi24 mj36 mdd2 mr163 114 195 = some (sg154, mi25, mj36, mdd2, mr170) := by
  unfold fX12_init_b815
  refine sg (show kdx sg148 114 = 13 by decide +kernel) ?_
  exact in181
set_option maxRecDepth 20000 in
theorem in179 : fX12_init_b807 114 sg147 mi24 mj36 mdd2 mr162 114 194 = some (sg154, mi25, mj36, mdd2, mr170) := by
  unfold fX12_init_b807
  refine sg (show kdx sg147 114 = 13 by decide +kernel) ?_
  exact in180
set_option maxRecDepth 20000 in
theorem in178 : fX12_init_b800 114 sg146 mi24 mj36 mdd2 mr161 114 193 = some (sg154, mi25, mj36, mdd2, mr170) := by
  unfold fX12_init_b800
  refine sg (show kdx sg146 114 = 13 by decide +kernel) ?_
  exact in179
set_option maxRecDepth 20000 in
theorem in177 : fX12_init_b793 114 sg145 mi24 mj36 mdd2 mr160 114 192 = some (sg154, mi25, mj36, mdd2, mr170) := by
  unfold fX12_init_b793
  refine sg (show kdx sg145 114 = 13 by decide +kernel) ?_
  exact in178
set_option maxRecDepth 20000 in
theorem in176 : fX12_init_b786 114 sg144 mi24 mj36 mdd2 mr159 114 191 = some (sg154, mi25, mj36, mdd2, mr170) := by
  unfold fX12_init_b786
  refine sg (show kdx sg144 114 = 13 by decide +kernel) ?_
  exact in177
set_option maxRecDepth 20000 in
theorem in175 : fX12_init_b779 114 sg143 mi24 mj36 mdd2 mr158 114 190 = some (sg154, mi25, mj36, mdd2, mr170) := by
  unfold fX12_init_b779
  refine sg (show kdx sg143 114 = 13 by decide +kernel) ?_
  exact in176
set_option maxRecDepth 20000 in
theorem in174 : fX12_init_b771 114 sg142 mi24 mj36 mdd2 mr157 114 189 = some (sg154, mi25, mj36, mdd2, mr170) := by
  unfold fX12_init_b771
  refine sg (show kdx sg142 114 = 13 by decide +kernel) ?_
  exact in175
set_option maxRecDepth 20000 in
theorem in173 : fX12_init_b763 114 sg141 mi24 mj36 mdd2 mr156 114 188 = some (sg154, mi25, mj36, mdd2, mr170) := by
  unfold fX12_init_b763
  refine sg (show kdx sg141 114 = 13 by decide +kernel) ?_
  exact in174
set_option maxRecDepth 20000 in
theorem in172 : fX12_init_b755 114 sg140 mi24 mj36 mdd2 mr155 114 187 = some (sg154, mi25, mj36, mdd2, mr170) := by
  unfold fX12_init_b755
  refine sg (show kdx sg140 114 = 13 by decide +kernel) ?_
  exact in173
set_option maxRecDepth 20000 in
theorem in171 : fX12_init_b747 114 sg139 mi24 mj36 mdd2 mr154 114 186 = some (sg154, mi25, mj36, mdd2, mr170) := by
  unfold fX12_init_b747
  refine sg (show kdx sg139 114 = 13 by decide +kernel) ?_
  exact in172
set_option maxRecDepth 20000 in
theorem in170 : fX12_init_b739 114 sg138 mi24 mj36 mdd2 mr153 114 185 = some (sg154, mi25, mj36, mdd2, mr170) := by
  unfold fX12_init_b739
  refine sg (show kdx sg138 114 = 13 by decide +kernel) ?_
  exact in171
set_option maxRecDepth 20000 in
theorem in169 : fX12_init_b731 114 sg137 mi24 mj36 mdd2 mr152 114 184 = some (sg154, mi25, mj36, mdd2, mr170) := by
  unfold fX12_init_b731
  refine sg (show kdx sg137 114 = 13 by decide +kernel) ?_
  exact in170
set_option maxRecDepth 20000 in
theorem in168 : fX12_init_b723 114 sg136 mi24 mj36 mdd2 mr151 114 183 = some (sg154, mi25, mj36, mdd2, mr170) := by
  unfold fX12_init_b723
  refine sg (show kdx sg136 114 = 13 by decide +kernel) ?_
  exact in169
set_option maxRecDepth 20000 in
theorem in167 : fX12_init_b715 114 sg135 mi24 mj36 mdd2 mr150 114 182 = some (sg154, mi25, mj36, mdd2, mr170) := by
  unfold fX12_init_b715
  refine sg (show kdx sg135 114 = 13 by decide +kernel) ?_
  exact in168
set_option maxRecDepth 20000 in
theorem in166 : fX12_init_b707 114 sg134 mi24 mj36 mdd2 mr149 114 181 = some (sg154, mi25, mj36, mdd2, mr170) := by
  unfold fX12_init_b707
  refine sg (show kdx sg134 114 = 13 by decide +kernel) ?_
  exact in167
set_option maxRecDepth 20000 in
theorem in165 : fX12_init_b700 114 sg133 mi24 mj36 mdd2 mr148 114 180 = some (sg154, mi25, mj36, mdd2, mr170) := by
  unfold fX12_init_b700
  refine sg (show kdx sg133 114 = 13 by decide +kernel) ?_
  exact in166
set_option maxRecDepth 20000 in
theorem in164 : fX12_init_b692 114 sg132 mi24 mj36 mdd2 mr147 114 179 = some (sg154, mi25, mj36, mdd2, mr170) := by
  unfold fX12_init_b692
  refine sg (show kdx sg132 114 = 13 by decide +kernel) ?_
  exact in165
set_option maxRecDepth 20000 in
theorem in163 : fX12_init_b685 114 sg131 mi24 mj36 mdd2 mr146 114 178 = some (sg154, mi25, mj36, mdd2, mr170) := by
  unfold fX12_init_b685
  refine sg (show kdx sg131 114 = 13 by decide +kernel) ?_
  exact in164
set_option maxRecDepth 20000 in
theorem in162 : fX12_init_b678 114 sg130 mi24 mj36 mdd2 mr145 114 177 = some (sg154, mi25, mj36, mdd2, mr170) := by
  unfold fX12_init_b678
  refine sg (show kdx sg130 114 = 13 by decide +kernel) ?_
  exact in163
set_option maxRecDepth 20000 in
theorem in161 : fX12_init_b653 114 sg129 mi24 mj33 mdd2 mr144 114 176 = some (sg154, mi25, mj36, mdd2, mr170) := by
  unfold fX12_init_b653
  refine sg (show kdx sg129 176 = 21 by decide +kernel) ?_
  refine sg (show ¬ ((0 : Int32) < 0 ∨ lnx sg129 176 ≤ Int32.toNatClampNeg (0 : Int32)) by decide +kernel) ?_
  refine sg (show ¬ ((1 : Int32) < 0 ∨ lnx sg129 176 ≤ Int32.toNatClampNeg (1 : Int32)) by decide +kernel) ?_
  refine sg (show ¬ ((2 : Int32) < 0 ∨ lnx sg129 176 ≤ Int32.toNatClampNeg (2 : Int32)) by decide +kernel) ?_
  refine sg (show kdx sg129 114 = 13 by decide +kernel) ?_
  exact in162
set_option maxRecDepth 20000 in
theorem in160 : fX12_init_b628 114 sg128 mi24 mj30 mdd2 mr143 114 175 = some (sg154, mi25, mj36, mdd2, mr170) := by
  unfold fX12_init_b628
  refine sg (show kdx sg128 175 = 21 by decide +kernel) ?_
  refine sg (show ¬ ((0 : Int32) < 0 ∨ lnx sg128 175 ≤ Int32.toNatClampNeg (0 : Int32)) by decide +kernel) ?_
  refine sg (show ¬ ((1 : Int32) < 0 ∨ lnx sg128 175 ≤ Int32.toNatClampNeg (1 : Int32)) by decide +kernel) ?_
  refine sg (show ¬ ((2 : Int32) < 0 ∨ lnx sg128 175 ≤ Int32.toNatClampNeg (2 : Int32)) by decide +kernel) ?_
  refine sg (show kdx sg128 114 = 13 by decide +kernel) ?_
  exact in161
set_option maxRecDepth 20000 in
theorem in159 : fX12_init_b597 114 sg127 mi19 mj30 mdd2 mr142 114 174 = some (sg154, mi25, mj36, mdd2, mr170) := by
  unfold fX12_init_b597
  refine sg (show kdx sg127 174 = 20 by decide +kernel) ?_
  refine sg (show ¬ ((0 : Int32) < 0 ∨ lnx sg127 174 ≤ Int32.toNatClampNeg (0 : Int32)) by decide +kernel) ?_
  refine sg (show ¬ ((1 : Int32) < 0 ∨ lnx sg127 174 ≤ Int32.toNatClampNeg (1 : Int32)) by decide +kernel) ?_
  refine sg (show ¬ ((2 : Int32) < 0 ∨ lnx sg127 174 ≤ Int32.toNatClampNeg (2 : Int32)) by decide +kernel) ?_
  refine sg (show ¬ ((3 : Int32) < 0 ∨ lnx sg127 174 ≤ Int32.toNatClampNeg (3 : Int32)) by decide +kernel) ?_
  refine sg (show ¬ ((4 : Int32) < 0 ∨ lnx sg127 174 ≤ Int32.toNatClampNeg (4 : Int32)) by decide +kernel) ?_
  refine sg (show kdx sg127 114 = 13 by decide +kernel) ?_
  exact in160
set_option maxRecDepth 20000 in
theorem in158 : fX12_init_b572 114 sg126 mi19 mj27 mdd2 mr141 114 173 = some (sg154, mi25, mj36, mdd2, mr170) := by
  unfold fX12_init_b572
  refine sg (show kdx sg126 173 = 21 by decide +kernel) ?_
  refine sg (show ¬ ((0 : Int32) < 0 ∨ lnx sg126 173 ≤ Int32.toNatClampNeg (0 : Int32)) by decide +kernel) ?_
  refine sg (show ¬ ((1 : Int32) < 0 ∨ lnx sg126 173 ≤ Int32.toNatClampNeg (1 : Int32)) by decide +kernel) ?_
  refine sg (show ¬ ((2 : Int32) < 0 ∨ lnx sg126 173 ≤ Int32.toNatClampNeg (2 : Int32)) by decide +kernel) ?_
  refine sg (show kdx sg126 114 = 13 by decide +kernel) ?_
  exact in159
set_option maxRecDepth 20000 in
theorem in157 : fX12_init_b558 114 sg125 mi19 mj27 mdd1 mr140 114 172 = some (sg154, mi25, mj36, mdd2, mr170) := by
  unfold fX12_init_b558
  refine sg (show kdx sg125 114 = 13 by decide +kernel) ?_
  refine sg (show kdx sg125 114 = 13 by decide +kernel) ?_
  exact in158
set_option maxRecDepth 20000 in
theorem in156 : fX12_init_b550 114 sg124 mi19 mj27 mdd1 mr139 114 171 = some (sg154, mi25, mj36, mdd2, mr170) := by
  unfold fX12_init_b550
  refine sg (show kdx sg124 114 = 13 by decide +kernel) ?_
  exact in157
set_option maxRecDepth 20000 in
theorem in155 : fX12_init_b542 114 sg123 mi19 mj27 mdd1 mr138 114 170 = some (sg154, mi25, mj36, mdd2, mr170) := by
  unfold fX12_init_b542
  refine sg (show kdx sg123 114 = 13 by decide +kernel) ?_
  exact in156
set_option maxRecDepth 20000 in
theorem in154 : fX12_init_b534 114 sg122 mi19 mj27 mdd1 mr137 114 169 = some (sg154, mi25, mj36, mdd2, mr170) := by
  unfold fX12_init_b534
  refine sg (show kdx sg122 114 = 13 by decide +kernel) ?_
  exact in155
set_option maxRecDepth 20000 in
theorem in153 : fX12_init_b526 114 sg121 mi19 mj27 mdd1 mr136 114 168 = some (sg154, mi25, mj36, mdd2, mr170) := by
  unfold fX12_init_b526
  refine sg (show kdx sg121 114 = 13 by decide +kernel) ?_
  exact in154
set_option maxRecDepth 20000 in
theorem in152 : fX12_init_b518 114 sg120 mi19 mj27 mdd1 mr135 114 167 = some (sg154, mi25, mj36, mdd2, mr170) := by
  unfold fX12_init_b518
  refine sg (show kdx sg120 114 = 13 by decide +kernel) ?_
  exact in153
set_option maxRecDepth 20000 in
theorem in151 : fX12_init_b510 114 sg119 mi19 mj27 mdd1 mr134 114 166 = some (sg154, mi25, mj36, mdd2, mr170) := by
  unfold fX12_init_b510
  refine sg (show kdx sg119 114 = 13 by decide +kernel) ?_
  exact in152
set_option maxRecDepth 20000 in
theorem in150 : fX12_init_b445 114 sg118 mi19 mj18 mdd1 mr133 114 165 = some (sg154, mi25, mj36, mdd2, mr170) := by
  unfold fX12_init_b445
  refine sg (show kdx sg118 165 = 21 by decide +kernel) ?_
  refine sg (show ¬ ((0 : Int32) < 0 ∨ lnx sg118 165 ≤ Int32.toNatClampNeg (0 : Int32)) by decide +kernel) ?_
  refine sg (show ¬ ((1 : Int32) < 0 ∨ lnx sg118 165 ≤ Int32.toNatClampNeg (1 : Int32)) by decide +kernel) ?_
  refine sg (show ¬ ((2 : Int32) < 0 ∨ lnx sg118 165 ≤ Int32.toNatClampNeg (2 : Int32)) by decide +kernel) ?_
  refine sg (show ¬ ((3 : Int32) < 0 ∨ lnx sg118 165 ≤ Int32.toNatClampNeg (3 : Int32)) by decide +kernel) ?_
  refine sg (show ¬ ((4 : Int32) < 0 ∨ lnx sg118 165 ≤ Int32.toNatClampNeg (4 : Int32)) by decide +kernel) ?_
  refine sg (show ¬ ((5 : Int32) < 0 ∨ lnx sg118 165 ≤ Int32.toNatClampNeg (5 : Int32)) by decide +kernel) ?_
  refine sg (show ¬ ((6 : Int32) < 0 ∨ lnx sg118 165 ≤ Int32.toNatClampNeg (6 : Int32)) by decide +kernel) ?_
  refine sg (show ¬ ((7 : Int32) < 0 ∨ lnx sg118 165 ≤ Int32.toNatClampNeg (7 : Int32)) by decide +kernel) ?_
  refine sg (show ¬ ((8 : Int32) < 0 ∨ lnx sg118 165 ≤ Int32.toNatClampNeg (8 : Int32)) by decide +kernel) ?_
  refine sg (show kdx sg118 114 = 13 by decide +kernel) ?_
  exact in151
set_option maxRecDepth 20000 in
theorem in149 : fX12_init_b437 114 sg117 mi19 mj18 mdd1 mr132 114 164 = some (sg154, mi25, mj36, mdd2, mr170) := by
  unfold fX12_init_b437
  refine sg (show kdx sg117 114 = 13 by decide +kernel) ?_
  exact in150
set_option maxRecDepth 20000 in
theorem in148 : fX12_init_b430 114 sg116 mi19 mj18 mdd1 mr131 114 163 = some (sg154, mi25, mj36, mdd2, mr170) := by
  unfold fX12_init_b430
  refine sg (show kdx sg116 114 = 13 by decide +kernel) ?_
  exact in149
set_option maxRecDepth 20000 in
theorem in147 : fX12_init_b423 114 sg115 mi19 mj18 mdd1 mr130 114 162 = some (sg154, mi25, mj36, mdd2, mr170) := by
  unfold fX12_init_b423
  refine sg (show kdx sg115 114 = 13 by decide +kernel) ?_
  exact in148
set_option maxRecDepth 20000 in
theorem in146 : fX12_init_b416 114 sg114 mi19 mj18 mdd1 mr129 114 161 = some (sg154, mi25, mj36, mdd2, mr170) := by
  unfold fX12_init_b416
  refine sg (show kdx sg114 114 = 13 by decide +kernel) ?_
  exact in147
set_option maxRecDepth 20000 in
theorem in145 : fX12_init_b409 114 sg113 mi19 mj18 mdd1 mr128 114 160 = some (sg154, mi25, mj36, mdd2, mr170) := by
  unfold fX12_init_b409
  refine sg (show kdx sg113 114 = 13 by decide +kernel) ?_
  exact in146
set_option maxRecDepth 20000 in
theorem in144 : fX12_init_b390 114 sg112 mi16 mj18 mdd1 mr127 114 159 = some (sg154, mi25, mj36, mdd2, mr170) := by
  unfold fX12_init_b390
  refine sg (show kdx sg112 159 = 20 by decide +kernel) ?_
  refine sg (show ¬ ((0 : Int32) < 0 ∨ lnx sg112 159 ≤ Int32.toNatClampNeg (0 : Int32)) by decide +kernel) ?_
  refine sg (show ¬ ((1 : Int32) < 0 ∨ lnx sg112 159 ≤ Int32.toNatClampNeg (1 : Int32)) by decide +kernel) ?_
  refine sg (show ¬ ((2 : Int32) < 0 ∨ lnx sg112 159 ≤ Int32.toNatClampNeg (2 : Int32)) by decide +kernel) ?_
  refine sg (show kdx sg112 114 = 13 by decide +kernel) ?_
  exact in145
set_option maxRecDepth 20000 in
theorem in143 : fX12_init_b383 114 sg111 mi16 mj18 mdd1 mr126 114 158 = some (sg154, mi25, mj36, mdd2, mr170) := by
  unfold fX12_init_b383
  refine sg (show kdx sg111 114 = 13 by decide +kernel) ?_
  exact in144
set_option maxRecDepth 20000 in
theorem in142 : fX12_init_b375 114 sg110 mi16 mj18 mdd1 mr125 114 157 = some (sg154, mi25, mj36, mdd2, mr170) := by
  unfold fX12_init_b375
  refine sg (show kdx sg110 114 = 13 by decide +kernel) ?_
  exact in143
set_option maxRecDepth 20000 in
theorem in141 : fX12_init_b367 114 sg109 mi16 mj18 mdd1 mr124 114 156 = some (sg154, mi25, mj36, mdd2, mr170) := by
  unfold fX12_init_b367
  refine sg (show kdx sg109 114 = 13 by decide +kernel) ?_
  exact in142
set_option maxRecDepth 20000 in
theorem in140 : fX12_init_b355 114 sg108 mi15 mj18 mdd1 mr123 114 155 = some (sg154, mi25, mj36, mdd2, mr170) := by
  unfold fX12_init_b355
  refine sg (show kdx sg108 114 = 13 by decide +kernel) ?_
  refine sg (show kdx sg108 114 = 13 by decide +kernel) ?_
  exact in141
set_option maxRecDepth 20000 in
theorem in139 : fX12_init_b346 114 sg107 mi15 mj18 mdd1 mr122 114 154 = some (sg154, mi25, mj36, mdd2, mr170) := by
  unfold fX12_init_b346
  refine sg (show kdx sg107 114 = 13 by decide +kernel) ?_
  exact in140
set_option maxRecDepth 20000 in
theorem in138 : fX12_init_b337 114 sg106 mi15 mj18 mdd1 mr121 114 153 = some (sg154, mi25, mj36, mdd2, mr170) := by
  unfold fX12_init_b337
  refine sg (show kdx sg106 114 = 13 by decide +kernel) ?_
  exact in139
set_option maxRecDepth 20000 in
theorem in137 : fX12_init_b328 114 sg105 mi15 mj18 mdd1 mr120 114 152 = some (sg154, mi25, mj36, mdd2, mr170) := by
  unfold fX12_init_b328
  refine sg (show kdx sg105 114 = 13 by decide +kernel) ?_
  exact in138
set_option maxRecDepth 20000 in
theorem in136 : fX12_init_b319 114 sg104 mi15 mj18 mdd1 mr119 114 151 = some (sg154, mi25, mj36, mdd2, mr170) := by
  unfold fX12_init_b319
  refine sg (show kdx sg104 114 = 13 by decide +kernel) ?_
  exact in137
set_option maxRecDepth 20000 in
theorem in135 : fX12_init_b310 114 sg103 mi15 mj18 mdd1 mr118 114 150 = some (sg154, mi25, mj36, mdd2, mr170) := by
  unfold fX12_init_b310
  refine sg (show kdx sg103 114 = 13 by decide +kernel) ?_
  exact in136
set_option maxRecDepth 20000 in
theorem in134 : fX12_init_b301 114 sg102 mi15 mj18 mdd1 mr117 114 149 = some (sg154, mi25, mj36, mdd2, mr170) := by
  unfold fX12_init_b301
  refine sg (show kdx sg102 114 = 13 by decide +kernel) ?_
  exact in135
set_option maxRecDepth 20000 in
theorem in133 : fX12_init_b292 114 sg101 mi15 mj18 mdd1 mr116 114 148 = some (sg154, mi25, mj36, mdd2, mr170) := by
  unfold fX12_init_b292
  refine sg (show kdx sg101 114 = 13 by decide +kernel) ?_
  exact in134
set_option maxRecDepth 20000 in
theorem in132 : fX12_init_b283 114 sg100 mi15 mj18 mdd1 mr115 114 147 = some (sg154, mi25, mj36, mdd2, mr170) := by
  unfold fX12_init_b283
  refine sg (show kdx sg100 114 = 13 by decide +kernel) ?_
  exact in133
set_option maxRecDepth 20000 in
theorem in131 : fX12_init_b274 114 sg99 mi15 mj18 mdd1 mr114 114 146 = some (sg154, mi25, mj36, mdd2, mr170) := by
  unfold fX12_init_b274
  refine sg (show kdx sg99 114 = 13 by decide +kernel) ?_
  exact in132
set_option maxRecDepth 20000 in
theorem in130 : fX12_init_b265 114 sg98 mi15 mj18 mdd1 mr113 114 145 = some (sg154, mi25, mj36, mdd2, mr170) := by
  unfold fX12_init_b265
  refine sg (show kdx sg98 114 = 13 by decide +kernel) ?_
  exact in131
set_option maxRecDepth 20000 in
theorem in129 : fX12_init_b256 114 sg97 mi15 mj18 mdd1 mr112 114 144 = some (sg154, mi25, mj36, mdd2, mr170) := by
  unfold fX12_init_b256
  refine sg (show kdx sg97 114 = 13 by decide +kernel) ?_
  exact in130
set_option maxRecDepth 20000 in
theorem in128 : fX12_init_b247 114 sg96 mi15 mj18 mdd1 mr111 114 143 = some (sg154, mi25, mj36, mdd2, mr170) := by
  unfold fX12_init_b247
  refine sg (show kdx sg96 114 = 13 by decide +kernel) ?_
  exact in129
set_option maxRecDepth 20000 in
theorem in127 : fX12_init_b238 114 sg95 mi15 mj18 mdd1 mr110 114 142 = some (sg154, mi25, mj36, mdd2, mr170) := by
  unfold fX12_init_b238
  refine sg (show kdx sg95 114 = 13 by decide +kernel) ?_
  exact in128
set_option maxRecDepth 20000 in
theorem in126 : fX12_init_b230 114 sg94 mi15 mj18 mdd1 mr109 114 141 = some (sg154, mi25, mj36, mdd2, mr170) := by
  unfold fX12_init_b230
  refine sg (show kdx sg94 114 = 13 by decide +kernel) ?_
  exact in127
set_option maxRecDepth 20000 in
theorem in125 : fX12_init_b223 114 sg93 mi15 mj18 mdd1 mr108 114 140 = some (sg154, mi25, mj36, mdd2, mr170) := by
  unfold fX12_init_b223
  refine sg (show kdx sg93 114 = 13 by decide +kernel) ?_
  exact in126
set_option maxRecDepth 20000 in
theorem in124 : fX12_init_b216 114 sg92 mi15 mj18 mdd1 mr107 114 139 = some (sg154, mi25, mj36, mdd2, mr170) := by
  unfold fX12_init_b216
  refine sg (show kdx sg92 114 = 13 by decide +kernel) ?_
  exact in125
set_option maxRecDepth 20000 in
theorem in123 : fX12_init_b208 114 sg91 mi15 mj18 mdd1 mr106 114 138 = some (sg154, mi25, mj36, mdd2, mr170) := by
  unfold fX12_init_b208
  refine sg (show kdx sg91 114 = 13 by decide +kernel) ?_
  exact in124
set_option maxRecDepth 20000 in
theorem in122 : fX12_init_b199 114 sg90 mi15 mj18 mdd1 mr105 114 137 = some (sg154, mi25, mj36, mdd2, mr170) := by
  unfold fX12_init_b199
  refine sg (show kdx sg90 114 = 13 by decide +kernel) ?_
  exact in123
set_option maxRecDepth 20000 in
theorem in121 : fX12_init_b190 114 sg89 mi15 mj18 mdd1 mr104 114 136 = some (sg154, mi25, mj36, mdd2, mr170) := by
  unfold fX12_init_b190
  refine sg (show kdx sg89 114 = 13 by decide +kernel) ?_
  exact in122
set_option maxRecDepth 20000 in
theorem in120 : fX12_init_b181 114 sg88 mi15 mj18 mdd1 mr103 114 135 = some (sg154, mi25, mj36, mdd2, mr170) := by
  unfold fX12_init_b181
  refine sg (show kdx sg88 114 = 13 by decide +kernel) ?_
  exact in121
set_option maxRecDepth 20000 in
theorem in119 : fX12_init_b172 114 sg87 mi15 mj18 mdd1 mr102 114 134 = some (sg154, mi25, mj36, mdd2, mr170) := by
  unfold fX12_init_b172
  refine sg (show kdx sg87 114 = 13 by decide +kernel) ?_
  exact in120
set_option maxRecDepth 20000 in
theorem in118 : fX12_init_b165 114 sg86 mi15 mj18 mdd1 mr101 114 133 = some (sg154, mi25, mj36, mdd2, mr170) := by
  unfold fX12_init_b165
  refine sg (show kdx sg86 114 = 13 by decide +kernel) ?_
  exact in119
set_option maxRecDepth 20000 in
theorem in117 : fX12_init_b156 114 sg85 mi15 mj18 mdd1 mr100 114 132 = some (sg154, mi25, mj36, mdd2, mr170) := by
  unfold fX12_init_b156
  refine sg (show kdx sg85 114 = 13 by decide +kernel) ?_
  exact in118
set_option maxRecDepth 20000 in
theorem in116 : fX12_init_b148 114 sg84 mi15 mj18 mdd1 mr99 114 131 = some (sg154, mi25, mj36, mdd2, mr170) := by
  unfold fX12_init_b148
  refine sg (show kdx sg84 114 = 13 by decide +kernel) ?_
  exact in117
set_option maxRecDepth 20000 in
theorem in115 : fX12_init_b140 114 sg83 mi15 mj18 mdd1 mr98 114 130 = some (sg154, mi25, mj36, mdd2, mr170) := by
  unfold fX12_init_b140
  refine sg (show kdx sg83 114 = 13 by decide +kernel) ?_
  exact in116
set_option maxRecDepth 20000 in
theorem in114 : fX12_init_b132 114 sg82 mi15 mj18 mdd1 mr97 114 129 = some (sg154, mi25, mj36, mdd2, mr170) := by
  unfold fX12_init_b132
  refine sg (show kdx sg82 114 = 13 by decide +kernel) ?_
  exact in115
set_option maxRecDepth 20000 in
theorem in113 : fX12_init_b123 114 sg81 mi15 mj18 mdd1 mr96 114 128 = some (sg154, mi25, mj36, mdd2, mr170) := by
  unfold fX12_init_b123
  refine sg (show kdx sg81 114 = 13 by decide +kernel) ?_
  exact in114
set_option maxRecDepth 20000 in
theorem in112 : fX12_init_b115 114 sg80 mi15 mj18 mdd1 mr95 114 127 = some (sg154, mi25, mj36, mdd2, mr170) := by
  unfold fX12_init_b115
  refine sg (show kdx sg80 114 = 13 by decide +kernel) ?_
  exact in113
set_option maxRecDepth 20000 in
theorem in111 : fX12_init_b106 114 sg79 mi15 mj18 mdd1 mr94 114 126 = some (sg154, mi25, mj36, mdd2, mr170) := by
  unfold fX12_init_b106
  refine sg (show kdx sg79 114 = 13 by decide +kernel) ?_
  exact in112
set_option maxRecDepth 20000 in
theorem in110 : fX12_init_b97 114 sg78 mi15 mj18 mdd1 mr93 114 125 = some (sg154, mi25, mj36, mdd2, mr170) := by
  unfold fX12_init_b97
  refine sg (show kdx sg78 114 = 13 by decide +kernel) ?_
  exact in111
set_option maxRecDepth 20000 in
theorem in109 : fX12_init_b88 114 sg77 mi15 mj18 mdd1 mr92 114 124 = some (sg154, mi25, mj36, mdd2, mr170) := by
  unfold fX12_init_b88
  refine sg (show kdx sg77 114 = 13 by decide +kernel) ?_
  exact in110
set_option maxRecDepth 20000 in
theorem in108 : fX12_init_b79 114 sg76 mi15 mj18 mdd1 mr91 114 123 = some (sg154, mi25, mj36, mdd2, mr170) := by
  unfold fX12_init_b79
  refine sg (show kdx sg76 114 = 13 by decide +kernel) ?_
  exact in109
set_option maxRecDepth 20000 in
theorem in107 : fX12_init_b70 114 sg75 mi15 mj18 mdd1 mr90 114 122 = some (sg154, mi25, mj36, mdd2, mr170) := by
  unfold fX12_init_b70
  refine sg (show kdx sg75 114 = 13 by decide +kernel) ?_
  exact in108
set_option maxRecDepth 20000 in
theorem in106 : fX12_init_b61 114 sg74 mi15 mj18 mdd1 mr89 114 121 = some (sg154, mi25, mj36, mdd2, mr170) := by
  unfold fX12_init_b61
  refine sg (show kdx sg74 114 = 13 by decide +kernel) ?_
  exact in107
set_option maxRecDepth 20000 in
theorem in105 : fX12_init_b52 114 sg73 mi15 mj18 mdd1 mr88 114 120 = some (sg154, mi25, mj36, mdd2, mr170) := by
  unfold fX12_init_b52
  refine sg (show kdx sg73 114 = 13 by decide +kernel) ?_
  exact in106
set_option maxRecDepth 20000 in
theorem in104 : fX12_init_b44 114 sg72 mi15 mj18 mdd1 mr87 114 119 = some (sg154, mi25, mj36, mdd2, mr170) := by
  unfold fX12_init_b44
  refine sg (show kdx sg72 114 = 13 by decide +kernel) ?_
  exact in105
set_option maxRecDepth 20000 in
theorem in103 : fX12_init_b36 114 sg71 mi15 mj18 mdd1 mr86 114 118 = some (sg154, mi25, mj36, mdd2, mr170) := by
  unfold fX12_init_b36
  refine sg (show kdx sg71 114 = 13 by decide +kernel) ?_
  exact in104
set_option maxRecDepth 20000 in
theorem in102 : fX12_init_b27 114 sg70 mi15 mj18 mdd1 mr85 114 117 = some (sg154, mi25, mj36, mdd2, mr170) := by
  unfold fX12_init_b27
  refine sg (show kdx sg70 114 = 13 by decide +kernel) ?_
  exact in103
set_option maxRecDepth 20000 in
theorem in101 : fX12_init_b18 114 sg69 mi15 mj18 mdd1 mr84 114 116 = some (sg154, mi25, mj36, mdd2, mr170) := by
  unfold fX12_init_b18
  refine sg (show kdx sg69 114 = 13 by decide +kernel) ?_
  exact in102
set_option maxRecDepth 20000 in
theorem in100 : fX12_init_b9 114 sg68 mi15 mj18 mdd1 mr83 114 115 = some (sg154, mi25, mj36, mdd2, mr170) := by
  unfold fX12_init_b9
  refine sg (show kdx sg68 114 = 13 by decide +kernel) ?_
  exact in101
set_option maxRecDepth 20000 in
theorem in99 : fX12_init sg67 mi15 mj18 mdd1 mr83 114 = some (sg154, mi25, mj36, mdd2, mr170) := by
  unfold fX12_init
  exact in100
