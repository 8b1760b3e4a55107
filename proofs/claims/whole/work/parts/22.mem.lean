/-! THE PURE PART, 2: the memory behind the constructors, printed by program (gen/mem.py). T: kinds and references of what changes (the script, texts), how many cells, how many slots; G: all ints; s: the ints of rows 62, 63, 86, 88 and all longs. -/
abbrev ZT : Type := (Nat → Nat × Nat) × (Nat → Nat → Nat) × Nat × Nat
abbrev ZG : Type := Nat → Int → Int
def z_kt (T : ZT) (r : Nat) : Nat × Nat := (cond (Nat.ble r 50) (cond (Nat.ble r 27) (cond (Nat.ble r 15) (cond (Nat.ble r 6) (cond (Nat.ble r 3) (cond (Nat.ble r 2) (cond (Nat.beq r 2) (20, 90) (T.1 r)) (cond (Nat.beq r 3) (13, 0) (T.1 r))) (cond (Nat.ble r 4) (cond (Nat.beq r 4) (21, 13) (T.1 r)) (cond (Nat.ble r 5) (cond (Nat.beq r 5) (13, 0) (T.1 r)) (cond (Nat.beq r 6) (21, 141) (T.1 r))))) (cond (Nat.ble r 12) (cond (Nat.ble r 10) (cond (Nat.beq r 10) (11, 0) (T.1 r)) (cond (Nat.ble r 11) (cond (Nat.beq r 11) (4, 0) (T.1 r)) (cond (Nat.beq r 12) (20, 10) (T.1 r)))) (cond (Nat.ble r 13) (cond (Nat.beq r 13) (20, 10) (T.1 r)) (cond (Nat.ble r 14) (cond (Nat.beq r 14) (20, 10) (T.1 r)) (cond (Nat.beq r 15) (20, 10) (T.1 r)))))) (cond (Nat.ble r 21) (cond (Nat.ble r 18) (cond (Nat.ble r 16) (cond (Nat.beq r 16) (20, 10) (T.1 r)) (cond (Nat.ble r 17) (cond (Nat.beq r 17) (20, 12) (T.1 r)) (cond (Nat.beq r 18) (20, 12) (T.1 r)))) (cond (Nat.ble r 19) (cond (Nat.beq r 19) (24, 4) (T.1 r)) (cond (Nat.ble r 20) (cond (Nat.beq r 20) (5, 0) (T.1 r)) (cond (Nat.beq r 21) (20, 10) (T.1 r))))) (cond (Nat.ble r 24) (cond (Nat.ble r 22) (cond (Nat.beq r 22) (20, 10) (T.1 r)) (cond (Nat.ble r 23) (cond (Nat.beq r 23) (20, 20) (T.1 r)) (cond (Nat.beq r 24) (20, 20) (T.1 r)))) (cond (Nat.ble r 25) (cond (Nat.beq r 25) (8, 0) (T.1 r)) (cond (Nat.ble r 26) (cond (Nat.beq r 26) (20, 720) (T.1 r)) (cond (Nat.beq r 27) (10, 0) (T.1 r))))))) (cond (Nat.ble r 38) (cond (Nat.ble r 32) (cond (Nat.ble r 29) (cond (Nat.ble r 28) (cond (Nat.beq r 28) (20, 8) (T.1 r)) (cond (Nat.beq r 29) (20, 8) (T.1 r))) (cond (Nat.ble r 30) (cond (Nat.beq r 30) (20, 8) (T.1 r)) (cond (Nat.ble r 31) (cond (Nat.beq r 31) (20, 8) (T.1 r)) (cond (Nat.beq r 32) (20, 8) (T.1 r))))) (cond (Nat.ble r 35) (cond (Nat.ble r 33) (cond (Nat.beq r 33) (4, 0) (T.1 r)) (cond (Nat.ble r 34) (cond (Nat.beq r 34) (20, 10) (T.1 r)) (cond (Nat.beq r 35) (20, 10) (T.1 r)))) (cond (Nat.ble r 36) (cond (Nat.beq r 36) (20, 10) (T.1 r)) (cond (Nat.ble r 37) (cond (Nat.beq r 37) (20, 10) (T.1 r)) (cond (Nat.beq r 38) (20, 10) (T.1 r)))))) (cond (Nat.ble r 44) (cond (Nat.ble r 41) (cond (Nat.ble r 39) (cond (Nat.beq r 39) (20, 12) (T.1 r)) (cond (Nat.ble r 40) (cond (Nat.beq r 40) (20, 12) (T.1 r)) (cond (Nat.beq r 41) (24, 4) (T.1 r)))) (cond (Nat.ble r 42) (cond (Nat.beq r 42) (5, 0) (T.1 r)) (cond (Nat.ble r 43) (cond (Nat.beq r 43) (20, 10) (T.1 r)) (cond (Nat.beq r 44) (20, 10) (T.1 r))))) (cond (Nat.ble r 47) (cond (Nat.ble r 45) (cond (Nat.beq r 45) (20, 20) (T.1 r)) (cond (Nat.ble r 46) (cond (Nat.beq r 46) (20, 20) (T.1 r)) (cond (Nat.beq r 47) (8, 0) (T.1 r)))) (cond (Nat.ble r 48) (cond (Nat.beq r 48) (20, 720) (T.1 r)) (cond (Nat.ble r 49) (cond (Nat.beq r 49) (10, 0) (T.1 r)) (cond (Nat.beq r 50) (20, 8) (T.1 r)))))))) (cond (Nat.ble r 73) (cond (Nat.ble r 61) (cond (Nat.ble r 55) (cond (Nat.ble r 52) (cond (Nat.ble r 51) (cond (Nat.beq r 51) (20, 8) (T.1 r)) (cond (Nat.beq r 52) (20, 8) (T.1 r))) (cond (Nat.ble r 53) (cond (Nat.beq r 53) (20, 8) (T.1 r)) (cond (Nat.ble r 54) (cond (Nat.beq r 54) (20, 8) (T.1 r)) (cond (Nat.beq r 55) (21, 300) (T.1 r))))) (cond (Nat.ble r 58) (cond (Nat.ble r 56) (cond (Nat.beq r 56) (7, 0) (T.1 r)) (cond (Nat.ble r 57) (cond (Nat.beq r 57) (20, 301) (T.1 r)) (cond (Nat.beq r 58) (20, 301) (T.1 r)))) (cond (Nat.ble r 59) (cond (Nat.beq r 59) (20, 300) (T.1 r)) (cond (Nat.ble r 60) (cond (Nat.beq r 60) (20, 96) (T.1 r)) (cond (Nat.beq r 61) (1, 0) (T.1 r)))))) (cond (Nat.ble r 67) (cond (Nat.ble r 64) (cond (Nat.ble r 62) (cond (Nat.beq r 62) (20, 10) (T.1 r)) (cond (Nat.ble r 63) (cond (Nat.beq r 63) (20, 64) (T.1 r)) (cond (Nat.beq r 64) (20, 181) (T.1 r)))) (cond (Nat.ble r 65) (cond (Nat.beq r 65) (2, 0) (T.1 r)) (cond (Nat.ble r 66) (cond (Nat.beq r 66) (6, 0) (T.1 r)) (cond (Nat.beq r 67) (20, 12) (T.1 r))))) (cond (Nat.ble r 70) (cond (Nat.ble r 68) (cond (Nat.beq r 68) (20, 8) (T.1 r)) (cond (Nat.ble r 69) (cond (Nat.beq r 69) (20, 20) (T.1 r)) (cond (Nat.beq r 70) (3, 0) (T.1 r)))) (cond (Nat.ble r 71) (cond (Nat.beq r 71) (20, 5) (T.1 r)) (cond (Nat.ble r 72) (cond (Nat.beq r 72) (20, 5) (T.1 r)) (cond (Nat.beq r 73) (20, 5) (T.1 r))))))) (cond (Nat.ble r 85) (cond (Nat.ble r 79) (cond (Nat.ble r 76) (cond (Nat.ble r 74) (cond (Nat.beq r 74) (20, 25) (T.1 r)) (cond (Nat.ble r 75) (cond (Nat.beq r 75) (20, 120) (T.1 r)) (cond (Nat.beq r 76) (20, 5) (T.1 r)))) (cond (Nat.ble r 77) (cond (Nat.beq r 77) (20, 32) (T.1 r)) (cond (Nat.ble r 78) (cond (Nat.beq r 78) (20, 32) (T.1 r)) (cond (Nat.beq r 79) (20, 32) (T.1 r))))) (cond (Nat.ble r 82) (cond (Nat.ble r 80) (cond (Nat.beq r 80) (12, 0) (T.1 r)) (cond (Nat.ble r 81) (cond (Nat.beq r 81) (20, 2136) (T.1 r)) (cond (Nat.beq r 82) (20, 2136) (T.1 r)))) (cond (Nat.ble r 83) (cond (Nat.beq r 83) (20, 2820) (T.1 r)) (cond (Nat.ble r 84) (cond (Nat.beq r 84) (20, 300) (T.1 r)) (cond (Nat.beq r 85) (20, 160) (T.1 r)))))) (cond (Nat.ble r 91) (cond (Nat.ble r 88) (cond (Nat.ble r 86) (cond (Nat.beq r 86) (20, 10) (T.1 r)) (cond (Nat.ble r 87) (cond (Nat.beq r 87) (23, 330) (T.1 r)) (cond (Nat.beq r 88) (22, 330) (T.1 r)))) (cond (Nat.ble r 89) (cond (Nat.beq r 89) (20, 10) (T.1 r)) (cond (Nat.ble r 90) (cond (Nat.beq r 90) (20, 10) (T.1 r)) (cond (Nat.beq r 91) (20, 10) (T.1 r))))) (cond (Nat.ble r 94) (cond (Nat.ble r 92) (cond (Nat.beq r 92) (20, 10) (T.1 r)) (cond (Nat.ble r 93) (cond (Nat.beq r 93) (20, 10) (T.1 r)) (cond (Nat.beq r 94) (20, 10) (T.1 r)))) (cond (Nat.ble r 95) (cond (Nat.beq r 95) (20, 10) (T.1 r)) (cond (Nat.ble r 96) (cond (Nat.beq r 96) (22, 2048) (T.1 r)) (cond (Nat.beq r 97) (22, 1024) (T.1 r)))))))))
def z_rt (T : ZT) (r k : Nat) : Nat := (cond (Nat.ble r 49) (cond (Nat.ble r 24) (cond (Nat.ble r 11) (cond (Nat.ble r 5) (cond (Nat.ble r 2) (cond (Nat.ble r 0) (cond (Nat.beq r 0) 0 (T.2.1 r k)) (cond (Nat.ble r 1) (cond (Nat.beq r 1) 0 (T.2.1 r k)) (cond (Nat.beq r 2) 0 (T.2.1 r k)))) (cond (Nat.ble r 3) (cond (Nat.beq r 3) 4 (T.2.1 r k)) (cond (Nat.ble r 4) (cond (Nat.beq r 4) 0 (T.2.1 r k)) (cond (Nat.beq r 5) 6 (T.2.1 r k))))) (cond (Nat.ble r 8) (cond (Nat.ble r 6) (cond (Nat.beq r 6) 0 (T.2.1 r k)) (cond (Nat.ble r 7) (cond (Nat.beq r 7) 0 (T.2.1 r k)) (cond (Nat.beq r 8) 0 (T.2.1 r k)))) (cond (Nat.ble r 9) (cond (Nat.beq r 9) 0 (T.2.1 r k)) (cond (Nat.ble r 10) (cond (Nat.beq r 10) (cond (Nat.ble k 6) (cond (Nat.ble k 2) (cond (Nat.ble k 0) (cond (Nat.beq k 0) 11 0) (cond (Nat.ble k 1) (cond (Nat.beq k 1) 20 0) (cond (Nat.beq k 2) 25 0))) (cond (Nat.ble k 4) (cond (Nat.ble k 3) (cond (Nat.beq k 3) 27 0) (cond (Nat.beq k 4) 33 0)) (cond (Nat.ble k 5) (cond (Nat.beq k 5) 42 0) (cond (Nat.beq k 6) 47 0)))) (cond (Nat.ble k 10) (cond (Nat.ble k 7) (cond (Nat.beq k 7) 49 0) (cond (Nat.ble k 8) (cond (Nat.beq k 8) 55 0) (cond (Nat.beq k 10) 56 0))) (cond (Nat.ble k 12) (cond (Nat.ble k 11) (cond (Nat.beq k 11) 61 0) (cond (Nat.beq k 12) 65 0)) (cond (Nat.ble k 13) (cond (Nat.beq k 13) 66 0) (cond (Nat.beq k 14) 70 0))))) (T.2.1 r k)) (cond (Nat.beq r 11) (cond (Nat.ble k 5) (cond (Nat.ble k 2) (cond (Nat.ble k 1) (cond (Nat.beq k 1) 12 0) (cond (Nat.beq k 2) 13 0)) (cond (Nat.ble k 4) (cond (Nat.beq k 4) 14 0) (cond (Nat.beq k 5) 15 0))) (cond (Nat.ble k 8) (cond (Nat.ble k 6) (cond (Nat.beq k 6) 16 0) (cond (Nat.beq k 8) 17 0)) (cond (Nat.ble k 9) (cond (Nat.beq k 9) 18 0) (cond (Nat.beq k 11) 19 0)))) (T.2.1 r k)))))) (cond (Nat.ble r 17) (cond (Nat.ble r 14) (cond (Nat.ble r 12) (cond (Nat.beq r 12) 0 (T.2.1 r k)) (cond (Nat.ble r 13) (cond (Nat.beq r 13) 0 (T.2.1 r k)) (cond (Nat.beq r 14) 0 (T.2.1 r k)))) (cond (Nat.ble r 15) (cond (Nat.beq r 15) 0 (T.2.1 r k)) (cond (Nat.ble r 16) (cond (Nat.beq r 16) 0 (T.2.1 r k)) (cond (Nat.beq r 17) 0 (T.2.1 r k))))) (cond (Nat.ble r 21) (cond (Nat.ble r 18) (cond (Nat.beq r 18) 0 (T.2.1 r k)) (cond (Nat.ble r 20) (cond (Nat.beq r 20) (cond (Nat.ble k 1) (cond (Nat.ble k 0) (cond (Nat.beq k 0) 21 0) (cond (Nat.beq k 1) 22 0)) (cond (Nat.ble k 6) (cond (Nat.beq k 6) 23 0) (cond (Nat.beq k 7) 24 0))) (T.2.1 r k)) (cond (Nat.beq r 21) 0 (T.2.1 r k)))) (cond (Nat.ble r 22) (cond (Nat.beq r 22) 0 (T.2.1 r k)) (cond (Nat.ble r 23) (cond (Nat.beq r 23) 0 (T.2.1 r k)) (cond (Nat.beq r 24) 0 (T.2.1 r k))))))) (cond (Nat.ble r 36) (cond (Nat.ble r 30) (cond (Nat.ble r 27) (cond (Nat.ble r 25) (cond (Nat.beq r 25) (cond (Nat.beq k 0) 26 0) (T.2.1 r k)) (cond (Nat.ble r 26) (cond (Nat.beq r 26) 0 (T.2.1 r k)) (cond (Nat.beq r 27) (cond (Nat.ble k 2) (cond (Nat.ble k 1) (cond (Nat.beq k 1) 28 0) (cond (Nat.beq k 2) 29 0)) (cond (Nat.ble k 4) (cond (Nat.beq k 4) 30 0) (cond (Nat.ble k 5) (cond (Nat.beq k 5) 31 0) (cond (Nat.beq k 6) 32 0)))) (T.2.1 r k)))) (cond (Nat.ble r 28) (cond (Nat.beq r 28) 0 (T.2.1 r k)) (cond (Nat.ble r 29) (cond (Nat.beq r 29) 0 (T.2.1 r k)) (cond (Nat.beq r 30) 0 (T.2.1 r k))))) (cond (Nat.ble r 33) (cond (Nat.ble r 31) (cond (Nat.beq r 31) 0 (T.2.1 r k)) (cond (Nat.ble r 32) (cond (Nat.beq r 32) 0 (T.2.1 r k)) (cond (Nat.beq r 33) (cond (Nat.ble k 5) (cond (Nat.ble k 2) (cond (Nat.ble k 1) (cond (Nat.beq k 1) 34 0) (cond (Nat.beq k 2) 35 0)) (cond (Nat.ble k 4) (cond (Nat.beq k 4) 36 0) (cond (Nat.beq k 5) 37 0))) (cond (Nat.ble k 8) (cond (Nat.ble k 6) (cond (Nat.beq k 6) 38 0) (cond (Nat.beq k 8) 39 0)) (cond (Nat.ble k 9) (cond (Nat.beq k 9) 40 0) (cond (Nat.beq k 11) 41 0)))) (T.2.1 r k)))) (cond (Nat.ble r 34) (cond (Nat.beq r 34) 0 (T.2.1 r k)) (cond (Nat.ble r 35) (cond (Nat.beq r 35) 0 (T.2.1 r k)) (cond (Nat.beq r 36) 0 (T.2.1 r k)))))) (cond (Nat.ble r 43) (cond (Nat.ble r 39) (cond (Nat.ble r 37) (cond (Nat.beq r 37) 0 (T.2.1 r k)) (cond (Nat.ble r 38) (cond (Nat.beq r 38) 0 (T.2.1 r k)) (cond (Nat.beq r 39) 0 (T.2.1 r k)))) (cond (Nat.ble r 40) (cond (Nat.beq r 40) 0 (T.2.1 r k)) (cond (Nat.ble r 42) (cond (Nat.beq r 42) (cond (Nat.ble k 1) (cond (Nat.ble k 0) (cond (Nat.beq k 0) 43 0) (cond (Nat.beq k 1) 44 0)) (cond (Nat.ble k 6) (cond (Nat.beq k 6) 45 0) (cond (Nat.beq k 7) 46 0))) (T.2.1 r k)) (cond (Nat.beq r 43) 0 (T.2.1 r k))))) (cond (Nat.ble r 46) (cond (Nat.ble r 44) (cond (Nat.beq r 44) 0 (T.2.1 r k)) (cond (Nat.ble r 45) (cond (Nat.beq r 45) 0 (T.2.1 r k)) (cond (Nat.beq r 46) 0 (T.2.1 r k)))) (cond (Nat.ble r 47) (cond (Nat.beq r 47) (cond (Nat.beq k 0) 48 0) (T.2.1 r k)) (cond (Nat.ble r 48) (cond (Nat.beq r 48) 0 (T.2.1 r k)) (cond (Nat.beq r 49) (cond (Nat.ble k 2) (cond (Nat.ble k 1) (cond (Nat.beq k 1) 50 0) (cond (Nat.beq k 2) 51 0)) (cond (Nat.ble k 4) (cond (Nat.beq k 4) 52 0) (cond (Nat.ble k 5) (cond (Nat.beq k 5) 53 0) (cond (Nat.beq k 6) 54 0)))) (T.2.1 r k)))))))) (cond (Nat.ble r 73) (cond (Nat.ble r 61) (cond (Nat.ble r 55) (cond (Nat.ble r 52) (cond (Nat.ble r 50) (cond (Nat.beq r 50) 0 (T.2.1 r k)) (cond (Nat.ble r 51) (cond (Nat.beq r 51) 0 (T.2.1 r k)) (cond (Nat.beq r 52) 0 (T.2.1 r k)))) (cond (Nat.ble r 53) (cond (Nat.beq r 53) 0 (T.2.1 r k)) (cond (Nat.ble r 54) (cond (Nat.beq r 54) 0 (T.2.1 r k)) (cond (Nat.beq r 55) 0 (T.2.1 r k))))) (cond (Nat.ble r 58) (cond (Nat.ble r 56) (cond (Nat.beq r 56) (cond (Nat.ble k 1) (cond (Nat.ble k 0) (cond (Nat.beq k 0) 57 (T.2.1 r k)) (cond (Nat.beq k 1) 58 (T.2.1 r k))) (cond (Nat.ble k 5) (cond (Nat.beq k 5) 59 (T.2.1 r k)) (cond (Nat.beq k 11) 60 (T.2.1 r k)))) (T.2.1 r k)) (cond (Nat.ble r 57) (cond (Nat.beq r 57) 0 (T.2.1 r k)) (cond (Nat.beq r 58) 0 (T.2.1 r k)))) (cond (Nat.ble r 59) (cond (Nat.beq r 59) 0 (T.2.1 r k)) (cond (Nat.ble r 60) (cond (Nat.beq r 60) 0 (T.2.1 r k)) (cond (Nat.beq r 61) (cond (Nat.ble k 1) (cond (Nat.ble k 0) (cond (Nat.beq k 0) 11 0) (cond (Nat.beq k 1) 20 0)) (cond (Nat.ble k 2) (cond (Nat.beq k 2) 62 0) (cond (Nat.ble k 3) (cond (Nat.beq k 3) 63 0) (cond (Nat.beq k 4) 64 0)))) (T.2.1 r k)))))) (cond (Nat.ble r 67) (cond (Nat.ble r 64) (cond (Nat.ble r 62) (cond (Nat.beq r 62) 0 (T.2.1 r k)) (cond (Nat.ble r 63) (cond (Nat.beq r 63) 0 (T.2.1 r k)) (cond (Nat.beq r 64) 0 (T.2.1 r k)))) (cond (Nat.ble r 65) (cond (Nat.beq r 65) (cond (Nat.ble k 1) (cond (Nat.ble k 0) (cond (Nat.beq k 0) 11 0) (cond (Nat.beq k 1) 20 0)) (cond (Nat.ble k 2) (cond (Nat.beq k 2) 25 0) (cond (Nat.beq k 3) 61 0))) (T.2.1 r k)) (cond (Nat.ble r 66) (cond (Nat.beq r 66) (cond (Nat.ble k 2) (cond (Nat.ble k 0) (cond (Nat.beq k 0) 11 0) (cond (Nat.ble k 1) (cond (Nat.beq k 1) 20 0) (cond (Nat.beq k 2) 27 0))) (cond (Nat.ble k 4) (cond (Nat.ble k 3) (cond (Nat.beq k 3) 61 0) (cond (Nat.beq k 4) 67 0)) (cond (Nat.ble k 5) (cond (Nat.beq k 5) 68 0) (cond (Nat.beq k 6) 69 0)))) (T.2.1 r k)) (cond (Nat.beq r 67) 0 (T.2.1 r k))))) (cond (Nat.ble r 70) (cond (Nat.ble r 68) (cond (Nat.beq r 68) 0 (T.2.1 r k)) (cond (Nat.ble r 69) (cond (Nat.beq r 69) 0 (T.2.1 r k)) (cond (Nat.beq r 70) (cond (Nat.ble k 5) (cond (Nat.ble k 2) (cond (Nat.ble k 0) (cond (Nat.beq k 0) 11 0) (cond (Nat.ble k 1) (cond (Nat.beq k 1) 20 0) (cond (Nat.beq k 2) 27 0))) (cond (Nat.ble k 3) (cond (Nat.beq k 3) 61 0) (cond (Nat.ble k 4) (cond (Nat.beq k 4) 71 0) (cond (Nat.beq k 5) 72 0)))) (cond (Nat.ble k 8) (cond (Nat.ble k 6) (cond (Nat.beq k 6) 73 0) (cond (Nat.ble k 7) (cond (Nat.beq k 7) 74 0) (cond (Nat.beq k 8) 75 0))) (cond (Nat.ble k 10) (cond (Nat.ble k 9) (cond (Nat.beq k 9) 76 0) (cond (Nat.beq k 10) 77 0)) (cond (Nat.ble k 11) (cond (Nat.beq k 11) 78 0) (cond (Nat.beq k 12) 79 0))))) (T.2.1 r k)))) (cond (Nat.ble r 71) (cond (Nat.beq r 71) 0 (T.2.1 r k)) (cond (Nat.ble r 72) (cond (Nat.beq r 72) 0 (T.2.1 r k)) (cond (Nat.beq r 73) 0 (T.2.1 r k))))))) (cond (Nat.ble r 85) (cond (Nat.ble r 79) (cond (Nat.ble r 76) (cond (Nat.ble r 74) (cond (Nat.beq r 74) 0 (T.2.1 r k)) (cond (Nat.ble r 75) (cond (Nat.beq r 75) 0 (T.2.1 r k)) (cond (Nat.beq r 76) 0 (T.2.1 r k)))) (cond (Nat.ble r 77) (cond (Nat.beq r 77) 0 (T.2.1 r k)) (cond (Nat.ble r 78) (cond (Nat.beq r 78) 0 (T.2.1 r k)) (cond (Nat.beq r 79) 0 (T.2.1 r k))))) (cond (Nat.ble r 82) (cond (Nat.ble r 80) (cond (Nat.beq r 80) (cond (Nat.ble k 23) (cond (Nat.ble k 3) (cond (Nat.ble k 1) (cond (Nat.ble k 0) (cond (Nat.beq k 0) 81 0) (cond (Nat.beq k 1) 82 0)) (cond (Nat.ble k 2) (cond (Nat.beq k 2) 83 0) (cond (Nat.beq k 3) 84 0))) (cond (Nat.ble k 21) (cond (Nat.ble k 15) (cond (Nat.beq k 15) 85 0) (cond (Nat.beq k 21) 86 0)) (cond (Nat.ble k 22) (cond (Nat.beq k 22) 87 0) (cond (Nat.beq k 23) 88 0)))) (cond (Nat.ble k 29) (cond (Nat.ble k 27) (cond (Nat.ble k 26) (cond (Nat.beq k 26) 89 0) (cond (Nat.beq k 27) 90 0)) (cond (Nat.ble k 28) (cond (Nat.beq k 28) 91 0) (cond (Nat.beq k 29) 92 0))) (cond (Nat.ble k 32) (cond (Nat.ble k 30) (cond (Nat.beq k 30) 93 0) (cond (Nat.beq k 32) 94 0)) (cond (Nat.ble k 33) (cond (Nat.beq k 33) 95 0) (cond (Nat.ble k 34) (cond (Nat.beq k 34) 96 0) (cond (Nat.beq k 35) 97 0)))))) (T.2.1 r k)) (cond (Nat.ble r 81) (cond (Nat.beq r 81) 0 (T.2.1 r k)) (cond (Nat.beq r 82) 0 (T.2.1 r k)))) (cond (Nat.ble r 83) (cond (Nat.beq r 83) 0 (T.2.1 r k)) (cond (Nat.ble r 84) (cond (Nat.beq r 84) 0 (T.2.1 r k)) (cond (Nat.beq r 85) 0 (T.2.1 r k)))))) (cond (Nat.ble r 91) (cond (Nat.ble r 88) (cond (Nat.ble r 86) (cond (Nat.beq r 86) 0 (T.2.1 r k)) (cond (Nat.ble r 87) (cond (Nat.beq r 87) 0 (T.2.1 r k)) (cond (Nat.beq r 88) 0 (T.2.1 r k)))) (cond (Nat.ble r 89) (cond (Nat.beq r 89) 0 (T.2.1 r k)) (cond (Nat.ble r 90) (cond (Nat.beq r 90) 0 (T.2.1 r k)) (cond (Nat.beq r 91) 0 (T.2.1 r k))))) (cond (Nat.ble r 94) (cond (Nat.ble r 92) (cond (Nat.beq r 92) 0 (T.2.1 r k)) (cond (Nat.ble r 93) (cond (Nat.beq r 93) 0 (T.2.1 r k)) (cond (Nat.beq r 94) 0 (T.2.1 r k)))) (cond (Nat.ble r 95) (cond (Nat.beq r 95) 0 (T.2.1 r k)) (cond (Nat.ble r 96) (cond (Nat.beq r 96) 0 (T.2.1 r k)) (cond (Nat.beq r 97) 0 (T.2.1 r k)))))))))
def z_sc (r : Nat) : Bool := Nat.beq r 62 || Nat.beq r 63 || Nat.beq r 86 || Nat.beq r 88
def z_Y (T : ZT) (G : ZG) (s : ZG × ZG) : ZM := (fun r => z_kt T r, fun r k => iI (cond (z_sc r) (s.1 r k) (G r k)), fun r k => lI (s.2 r k), fun r k => z_rt T r k, T.2.2.1, T.2.2.2)
set_option maxRecDepth 10000 in
theorem z_tb0 : (∀ T G s, z_kd (z_Y T G s) 2 = 20) ∧
  (∀ T G s, z_ln (z_Y T G s) 2 = 90) ∧
  (∀ T G s, z_kd (z_Y T G s) 3 = 13) ∧
  (∀ T G s, z_kd (z_Y T G s) 4 = 21) ∧
  (∀ T G s, z_ln (z_Y T G s) 4 = 13) ∧
  (∀ T G s, z_kd (z_Y T G s) 5 = 13) ∧
  (∀ T G s, z_kd (z_Y T G s) 6 = 21) ∧
  (∀ T G s, z_ln (z_Y T G s) 6 = 141) ∧
  (∀ T G s, z_kd (z_Y T G s) 10 = 11) ∧
  (∀ T G s, z_kd (z_Y T G s) 11 = 4) ∧
  (∀ T G s, z_kd (z_Y T G s) 12 = 20) ∧
  (∀ T G s, z_ln (z_Y T G s) 12 = 10) ∧
  (∀ T G s, z_kd (z_Y T G s) 13 = 20) ∧
  (∀ T G s, z_ln (z_Y T G s) 13 = 10) ∧
  (∀ T G s, z_kd (z_Y T G s) 14 = 20) ∧
  (∀ T G s, z_ln (z_Y T G s) 14 = 10) ∧
  (∀ T G s, z_kd (z_Y T G s) 15 = 20) ∧
  (∀ T G s, z_ln (z_Y T G s) 15 = 10) ∧
  (∀ T G s, z_kd (z_Y T G s) 16 = 20) ∧
  (∀ T G s, z_ln (z_Y T G s) 16 = 10) ∧
  (∀ T G s, z_kd (z_Y T G s) 17 = 20) ∧
  (∀ T G s, z_ln (z_Y T G s) 17 = 12) ∧
  (∀ T G s, z_kd (z_Y T G s) 18 = 20) ∧
  (∀ T G s, z_ln (z_Y T G s) 18 = 12) ∧
  (∀ T G s, z_kd (z_Y T G s) 19 = 24) ∧
  (∀ T G s, z_ln (z_Y T G s) 19 = 4) ∧
  (∀ T G s, z_kd (z_Y T G s) 20 = 5) ∧
  (∀ T G s, z_kd (z_Y T G s) 21 = 20) ∧
  (∀ T G s, z_ln (z_Y T G s) 21 = 10) ∧
  (∀ T G s, z_kd (z_Y T G s) 22 = 20) ∧
  (∀ T G s, z_ln (z_Y T G s) 22 = 10) ∧
  (∀ T G s, z_kd (z_Y T G s) 23 = 20) ∧
  (∀ T G s, z_ln (z_Y T G s) 23 = 20) ∧
  (∀ T G s, z_kd (z_Y T G s) 24 = 20) ∧
  (∀ T G s, z_ln (z_Y T G s) 24 = 20) ∧
  (∀ T G s, z_kd (z_Y T G s) 25 = 8) ∧
  (∀ T G s, z_kd (z_Y T G s) 26 = 20) ∧
  (∀ T G s, z_ln (z_Y T G s) 26 = 720) ∧
  (∀ T G s, z_kd (z_Y T G s) 27 = 10) ∧
  (∀ T G s, z_kd (z_Y T G s) 28 = 20) ∧
  (∀ T G s, z_ln (z_Y T G s) 28 = 8) := ⟨fun _ _ _ => rfl, fun _ _ _ => rfl, fun _ _ _ => rfl, fun _ _ _ => rfl, fun _ _ _ => rfl, fun _ _ _ => rfl, fun _ _ _ => rfl, fun _ _ _ => rfl, fun _ _ _ => rfl, fun _ _ _ => rfl, fun _ _ _ => rfl, fun _ _ _ => rfl, fun _ _ _ => rfl, fun _ _ _ => rfl, fun _ _ _ => rfl, fun _ _ _ => rfl, fun _ _ _ => rfl, fun _ _ _ => rfl, fun _ _ _ => rfl, fun _ _ _ => rfl, fun _ _ _ => rfl, fun _ _ _ => rfl, fun _ _ _ => rfl, fun _ _ _ => rfl, fun _ _ _ => rfl, fun _ _ _ => rfl, fun _ _ _ => rfl, fun _ _ _ => rfl, fun _ _ _ => rfl, fun _ _ _ => rfl, fun _ _ _ => rfl, fun _ _ _ => rfl, fun _ _ _ => rfl, fun _ _ _ => rfl, fun _ _ _ => rfl, fun _ _ _ => rfl, fun _ _ _ => rfl, fun _ _ _ => rfl, fun _ _ _ => rfl, fun _ _ _ => rfl, fun _ _ _ => rfl⟩
set_option maxRecDepth 10000 in
theorem z_tb1 : (∀ T G s, z_kd (z_Y T G s) 29 = 20) ∧
  (∀ T G s, z_ln (z_Y T G s) 29 = 8) ∧
  (∀ T G s, z_kd (z_Y T G s) 30 = 20) ∧
  (∀ T G s, z_ln (z_Y T G s) 30 = 8) ∧
  (∀ T G s, z_kd (z_Y T G s) 31 = 20) ∧
  (∀ T G s, z_ln (z_Y T G s) 31 = 8) ∧
  (∀ T G s, z_kd (z_Y T G s) 32 = 20) ∧
  (∀ T G s, z_ln (z_Y T G s) 32 = 8) ∧
  (∀ T G s, z_kd (z_Y T G s) 33 = 4) ∧
  (∀ T G s, z_kd (z_Y T G s) 34 = 20) ∧
  (∀ T G s, z_ln (z_Y T G s) 34 = 10) ∧
  (∀ T G s, z_kd (z_Y T G s) 35 = 20) ∧
  (∀ T G s, z_ln (z_Y T G s) 35 = 10) ∧
  (∀ T G s, z_kd (z_Y T G s) 36 = 20) ∧
  (∀ T G s, z_ln (z_Y T G s) 36 = 10) ∧
  (∀ T G s, z_kd (z_Y T G s) 37 = 20) ∧
  (∀ T G s, z_ln (z_Y T G s) 37 = 10) ∧
  (∀ T G s, z_kd (z_Y T G s) 38 = 20) ∧
  (∀ T G s, z_ln (z_Y T G s) 38 = 10) ∧
  (∀ T G s, z_kd (z_Y T G s) 39 = 20) ∧
  (∀ T G s, z_ln (z_Y T G s) 39 = 12) ∧
  (∀ T G s, z_kd (z_Y T G s) 40 = 20) ∧
  (∀ T G s, z_ln (z_Y T G s) 40 = 12) ∧
  (∀ T G s, z_kd (z_Y T G s) 41 = 24) ∧
  (∀ T G s, z_ln (z_Y T G s) 41 = 4) ∧
  (∀ T G s, z_kd (z_Y T G s) 42 = 5) ∧
  (∀ T G s, z_kd (z_Y T G s) 43 = 20) ∧
  (∀ T G s, z_ln (z_Y T G s) 43 = 10) ∧
  (∀ T G s, z_kd (z_Y T G s) 44 = 20) ∧
  (∀ T G s, z_ln (z_Y T G s) 44 = 10) ∧
  (∀ T G s, z_kd (z_Y T G s) 45 = 20) ∧
  (∀ T G s, z_ln (z_Y T G s) 45 = 20) ∧
  (∀ T G s, z_kd (z_Y T G s) 46 = 20) ∧
  (∀ T G s, z_ln (z_Y T G s) 46 = 20) ∧
  (∀ T G s, z_kd (z_Y T G s) 47 = 8) ∧
  (∀ T G s, z_kd (z_Y T G s) 48 = 20) ∧
  (∀ T G s, z_ln (z_Y T G s) 48 = 720) ∧
  (∀ T G s, z_kd (z_Y T G s) 49 = 10) ∧
  (∀ T G s, z_kd (z_Y T G s) 50 = 20) ∧
  (∀ T G s, z_ln (z_Y T G s) 50 = 8) ∧
  (∀ T G s, z_kd (z_Y T G s) 51 = 20) := ⟨fun _ _ _ => rfl, fun _ _ _ => rfl, fun _ _ _ => rfl, fun _ _ _ => rfl, fun _ _ _ => rfl, fun _ _ _ => rfl, fun _ _ _ => rfl, fun _ _ _ => rfl, fun _ _ _ => rfl, fun _ _ _ => rfl, fun _ _ _ => rfl, fun _ _ _ => rfl, fun _ _ _ => rfl, fun _ _ _ => rfl, fun _ _ _ => rfl, fun _ _ _ => rfl, fun _ _ _ => rfl, fun _ _ _ => rfl, fun _ _ _ => rfl, fun _ _ _ => rfl, fun _ _ _ => rfl, fun _ _ _ => rfl, fun _ _ _ => rfl, fun _ _ _ => rfl, fun _ _ _ => rfl, fun _ _ _ => rfl, fun _ _ _ => rfl, fun _ _ _ => rfl, fun _ _ _ => rfl, fun _ _ _ => rfl, fun _ _ _ => rfl, fun _ _ _ => rfl, fun _ _ _ => rfl, fun _ _ _ => rfl, fun _ _ _ => rfl, fun _ _ _ => rfl, fun _ _ _ => rfl, fun _ _ _ => rfl, fun _ _ _ => rfl, fun _ _ _ => rfl, fun _ _ _ => rfl⟩
set_option maxRecDepth 10000 in
theorem z_tb2 : (∀ T G s, z_ln (z_Y T G s) 51 = 8) ∧
  (∀ T G s, z_kd (z_Y T G s) 52 = 20) ∧
  (∀ T G s, z_ln (z_Y T G s) 52 = 8) ∧
  (∀ T G s, z_kd (z_Y T G s) 53 = 20) ∧
  (∀ T G s, z_ln (z_Y T G s) 53 = 8) ∧
  (∀ T G s, z_kd (z_Y T G s) 54 = 20) ∧
  (∀ T G s, z_ln (z_Y T G s) 54 = 8) ∧
  (∀ T G s, z_kd (z_Y T G s) 55 = 21) ∧
  (∀ T G s, z_ln (z_Y T G s) 55 = 300) ∧
  (∀ T G s, z_kd (z_Y T G s) 56 = 7) ∧
  (∀ T G s, z_kd (z_Y T G s) 57 = 20) ∧
  (∀ T G s, z_ln (z_Y T G s) 57 = 301) ∧
  (∀ T G s, z_kd (z_Y T G s) 58 = 20) ∧
  (∀ T G s, z_ln (z_Y T G s) 58 = 301) ∧
  (∀ T G s, z_kd (z_Y T G s) 59 = 20) ∧
  (∀ T G s, z_ln (z_Y T G s) 59 = 300) ∧
  (∀ T G s, z_kd (z_Y T G s) 60 = 20) ∧
  (∀ T G s, z_ln (z_Y T G s) 60 = 96) ∧
  (∀ T G s, z_kd (z_Y T G s) 61 = 1) ∧
  (∀ T G s, z_kd (z_Y T G s) 62 = 20) ∧
  (∀ T G s, z_ln (z_Y T G s) 62 = 10) ∧
  (∀ T G s, z_kd (z_Y T G s) 63 = 20) ∧
  (∀ T G s, z_ln (z_Y T G s) 63 = 64) ∧
  (∀ T G s, z_kd (z_Y T G s) 64 = 20) ∧
  (∀ T G s, z_ln (z_Y T G s) 64 = 181) ∧
  (∀ T G s, z_kd (z_Y T G s) 65 = 2) ∧
  (∀ T G s, z_kd (z_Y T G s) 66 = 6) ∧
  (∀ T G s, z_kd (z_Y T G s) 67 = 20) ∧
  (∀ T G s, z_ln (z_Y T G s) 67 = 12) ∧
  (∀ T G s, z_kd (z_Y T G s) 68 = 20) ∧
  (∀ T G s, z_ln (z_Y T G s) 68 = 8) ∧
  (∀ T G s, z_kd (z_Y T G s) 69 = 20) ∧
  (∀ T G s, z_ln (z_Y T G s) 69 = 20) ∧
  (∀ T G s, z_kd (z_Y T G s) 70 = 3) ∧
  (∀ T G s, z_kd (z_Y T G s) 71 = 20) ∧
  (∀ T G s, z_ln (z_Y T G s) 71 = 5) ∧
  (∀ T G s, z_kd (z_Y T G s) 72 = 20) ∧
  (∀ T G s, z_ln (z_Y T G s) 72 = 5) ∧
  (∀ T G s, z_kd (z_Y T G s) 73 = 20) ∧
  (∀ T G s, z_ln (z_Y T G s) 73 = 5) ∧
  (∀ T G s, z_kd (z_Y T G s) 74 = 20) := ⟨fun _ _ _ => rfl, fun _ _ _ => rfl, fun _ _ _ => rfl, fun _ _ _ => rfl, fun _ _ _ => rfl, fun _ _ _ => rfl, fun _ _ _ => rfl, fun _ _ _ => rfl, fun _ _ _ => rfl, fun _ _ _ => rfl, fun _ _ _ => rfl, fun _ _ _ => rfl, fun _ _ _ => rfl, fun _ _ _ => rfl, fun _ _ _ => rfl, fun _ _ _ => rfl, fun _ _ _ => rfl, fun _ _ _ => rfl, fun _ _ _ => rfl, fun _ _ _ => rfl, fun _ _ _ => rfl, fun _ _ _ => rfl, fun _ _ _ => rfl, fun _ _ _ => rfl, fun _ _ _ => rfl, fun _ _ _ => rfl, fun _ _ _ => rfl, fun _ _ _ => rfl, fun _ _ _ => rfl, fun _ _ _ => rfl, fun _ _ _ => rfl, fun _ _ _ => rfl, fun _ _ _ => rfl, fun _ _ _ => rfl, fun _ _ _ => rfl, fun _ _ _ => rfl, fun _ _ _ => rfl, fun _ _ _ => rfl, fun _ _ _ => rfl, fun _ _ _ => rfl, fun _ _ _ => rfl⟩
set_option maxRecDepth 10000 in
theorem z_tb3 : (∀ T G s, z_ln (z_Y T G s) 74 = 25) ∧
  (∀ T G s, z_kd (z_Y T G s) 75 = 20) ∧
  (∀ T G s, z_ln (z_Y T G s) 75 = 120) ∧
  (∀ T G s, z_kd (z_Y T G s) 76 = 20) ∧
  (∀ T G s, z_ln (z_Y T G s) 76 = 5) ∧
  (∀ T G s, z_kd (z_Y T G s) 77 = 20) ∧
  (∀ T G s, z_ln (z_Y T G s) 77 = 32) ∧
  (∀ T G s, z_kd (z_Y T G s) 78 = 20) ∧
  (∀ T G s, z_ln (z_Y T G s) 78 = 32) ∧
  (∀ T G s, z_kd (z_Y T G s) 79 = 20) ∧
  (∀ T G s, z_ln (z_Y T G s) 79 = 32) ∧
  (∀ T G s, z_kd (z_Y T G s) 80 = 12) ∧
  (∀ T G s, z_kd (z_Y T G s) 81 = 20) ∧
  (∀ T G s, z_ln (z_Y T G s) 81 = 2136) ∧
  (∀ T G s, z_kd (z_Y T G s) 82 = 20) ∧
  (∀ T G s, z_ln (z_Y T G s) 82 = 2136) ∧
  (∀ T G s, z_kd (z_Y T G s) 83 = 20) ∧
  (∀ T G s, z_ln (z_Y T G s) 83 = 2820) ∧
  (∀ T G s, z_kd (z_Y T G s) 84 = 20) ∧
  (∀ T G s, z_ln (z_Y T G s) 84 = 300) ∧
  (∀ T G s, z_kd (z_Y T G s) 85 = 20) ∧
  (∀ T G s, z_ln (z_Y T G s) 85 = 160) ∧
  (∀ T G s, z_kd (z_Y T G s) 86 = 20) ∧
  (∀ T G s, z_ln (z_Y T G s) 86 = 10) ∧
  (∀ T G s, z_kd (z_Y T G s) 87 = 23) ∧
  (∀ T G s, z_ln (z_Y T G s) 87 = 330) ∧
  (∀ T G s, z_kd (z_Y T G s) 88 = 22) ∧
  (∀ T G s, z_ln (z_Y T G s) 88 = 330) ∧
  (∀ T G s, z_kd (z_Y T G s) 89 = 20) ∧
  (∀ T G s, z_ln (z_Y T G s) 89 = 10) ∧
  (∀ T G s, z_kd (z_Y T G s) 90 = 20) ∧
  (∀ T G s, z_ln (z_Y T G s) 90 = 10) ∧
  (∀ T G s, z_kd (z_Y T G s) 91 = 20) ∧
  (∀ T G s, z_ln (z_Y T G s) 91 = 10) ∧
  (∀ T G s, z_kd (z_Y T G s) 92 = 20) ∧
  (∀ T G s, z_ln (z_Y T G s) 92 = 10) ∧
  (∀ T G s, z_kd (z_Y T G s) 93 = 20) ∧
  (∀ T G s, z_ln (z_Y T G s) 93 = 10) ∧
  (∀ T G s, z_kd (z_Y T G s) 94 = 20) ∧
  (∀ T G s, z_ln (z_Y T G s) 94 = 10) ∧
  (∀ T G s, z_kd (z_Y T G s) 95 = 20) := ⟨fun _ _ _ => rfl, fun _ _ _ => rfl, fun _ _ _ => rfl, fun _ _ _ => rfl, fun _ _ _ => rfl, fun _ _ _ => rfl, fun _ _ _ => rfl, fun _ _ _ => rfl, fun _ _ _ => rfl, fun _ _ _ => rfl, fun _ _ _ => rfl, fun _ _ _ => rfl, fun _ _ _ => rfl, fun _ _ _ => rfl, fun _ _ _ => rfl, fun _ _ _ => rfl, fun _ _ _ => rfl, fun _ _ _ => rfl, fun _ _ _ => rfl, fun _ _ _ => rfl, fun _ _ _ => rfl, fun _ _ _ => rfl, fun _ _ _ => rfl, fun _ _ _ => rfl, fun _ _ _ => rfl, fun _ _ _ => rfl, fun _ _ _ => rfl, fun _ _ _ => rfl, fun _ _ _ => rfl, fun _ _ _ => rfl, fun _ _ _ => rfl, fun _ _ _ => rfl, fun _ _ _ => rfl, fun _ _ _ => rfl, fun _ _ _ => rfl, fun _ _ _ => rfl, fun _ _ _ => rfl, fun _ _ _ => rfl, fun _ _ _ => rfl, fun _ _ _ => rfl, fun _ _ _ => rfl⟩
set_option maxRecDepth 10000 in
theorem z_tb4 : (∀ T G s, z_ln (z_Y T G s) 95 = 10) ∧
  (∀ T G s, z_kd (z_Y T G s) 96 = 22) ∧
  (∀ T G s, z_ln (z_Y T G s) 96 = 2048) ∧
  (∀ T G s, z_kd (z_Y T G s) 97 = 22) ∧
  (∀ T G s, z_ln (z_Y T G s) 97 = 1024) ∧
  (∀ T G s, z_r (z_Y T G s) 3 0 = 4) ∧
  (∀ T G s, z_r (z_Y T G s) 5 0 = 6) ∧
  (∀ T G s, z_r (z_Y T G s) 10 0 = 11) ∧
  (∀ T G s, z_r (z_Y T G s) 10 1 = 20) ∧
  (∀ T G s, z_r (z_Y T G s) 10 2 = 25) ∧
  (∀ T G s, z_r (z_Y T G s) 10 3 = 27) ∧
  (∀ T G s, z_r (z_Y T G s) 10 4 = 33) ∧
  (∀ T G s, z_r (z_Y T G s) 10 5 = 42) ∧
  (∀ T G s, z_r (z_Y T G s) 10 6 = 47) ∧
  (∀ T G s, z_r (z_Y T G s) 10 7 = 49) ∧
  (∀ T G s, z_r (z_Y T G s) 10 8 = 55) ∧
  (∀ T G s, z_r (z_Y T G s) 10 10 = 56) ∧
  (∀ T G s, z_r (z_Y T G s) 10 11 = 61) ∧
  (∀ T G s, z_r (z_Y T G s) 10 12 = 65) ∧
  (∀ T G s, z_r (z_Y T G s) 10 13 = 66) ∧
  (∀ T G s, z_r (z_Y T G s) 10 14 = 70) ∧
  (∀ T G s, z_r (z_Y T G s) 11 1 = 12) ∧
  (∀ T G s, z_r (z_Y T G s) 11 2 = 13) ∧
  (∀ T G s, z_r (z_Y T G s) 11 4 = 14) ∧
  (∀ T G s, z_r (z_Y T G s) 11 5 = 15) ∧
  (∀ T G s, z_r (z_Y T G s) 11 6 = 16) ∧
  (∀ T G s, z_r (z_Y T G s) 11 8 = 17) ∧
  (∀ T G s, z_r (z_Y T G s) 11 9 = 18) ∧
  (∀ T G s, z_r (z_Y T G s) 11 11 = 19) ∧
  (∀ T G s, z_r (z_Y T G s) 20 0 = 21) ∧
  (∀ T G s, z_r (z_Y T G s) 20 1 = 22) ∧
  (∀ T G s, z_r (z_Y T G s) 20 6 = 23) ∧
  (∀ T G s, z_r (z_Y T G s) 20 7 = 24) ∧
  (∀ T G s, z_r (z_Y T G s) 25 0 = 26) ∧
  (∀ T G s, z_r (z_Y T G s) 27 1 = 28) ∧
  (∀ T G s, z_r (z_Y T G s) 27 2 = 29) ∧
  (∀ T G s, z_r (z_Y T G s) 27 4 = 30) ∧
  (∀ T G s, z_r (z_Y T G s) 27 5 = 31) ∧
  (∀ T G s, z_r (z_Y T G s) 27 6 = 32) ∧
  (∀ T G s, z_r (z_Y T G s) 33 1 = 34) ∧
  (∀ T G s, z_r (z_Y T G s) 33 2 = 35) := ⟨fun _ _ _ => rfl, fun _ _ _ => rfl, fun _ _ _ => rfl, fun _ _ _ => rfl, fun _ _ _ => rfl, fun _ _ _ => rfl, fun _ _ _ => rfl, fun _ _ _ => rfl, fun _ _ _ => rfl, fun _ _ _ => rfl, fun _ _ _ => rfl, fun _ _ _ => rfl, fun _ _ _ => rfl, fun _ _ _ => rfl, fun _ _ _ => rfl, fun _ _ _ => rfl, fun _ _ _ => rfl, fun _ _ _ => rfl, fun _ _ _ => rfl, fun _ _ _ => rfl, fun _ _ _ => rfl, fun _ _ _ => rfl, fun _ _ _ => rfl, fun _ _ _ => rfl, fun _ _ _ => rfl, fun _ _ _ => rfl, fun _ _ _ => rfl, fun _ _ _ => rfl, fun _ _ _ => rfl, fun _ _ _ => rfl, fun _ _ _ => rfl, fun _ _ _ => rfl, fun _ _ _ => rfl, fun _ _ _ => rfl, fun _ _ _ => rfl, fun _ _ _ => rfl, fun _ _ _ => rfl, fun _ _ _ => rfl, fun _ _ _ => rfl, fun _ _ _ => rfl, fun _ _ _ => rfl⟩
set_option maxRecDepth 10000 in
theorem z_tb5 : (∀ T G s, z_r (z_Y T G s) 33 4 = 36) ∧
  (∀ T G s, z_r (z_Y T G s) 33 5 = 37) ∧
  (∀ T G s, z_r (z_Y T G s) 33 6 = 38) ∧
  (∀ T G s, z_r (z_Y T G s) 33 8 = 39) ∧
  (∀ T G s, z_r (z_Y T G s) 33 9 = 40) ∧
  (∀ T G s, z_r (z_Y T G s) 33 11 = 41) ∧
  (∀ T G s, z_r (z_Y T G s) 42 0 = 43) ∧
  (∀ T G s, z_r (z_Y T G s) 42 1 = 44) ∧
  (∀ T G s, z_r (z_Y T G s) 42 6 = 45) ∧
  (∀ T G s, z_r (z_Y T G s) 42 7 = 46) ∧
  (∀ T G s, z_r (z_Y T G s) 47 0 = 48) ∧
  (∀ T G s, z_r (z_Y T G s) 49 1 = 50) ∧
  (∀ T G s, z_r (z_Y T G s) 49 2 = 51) ∧
  (∀ T G s, z_r (z_Y T G s) 49 4 = 52) ∧
  (∀ T G s, z_r (z_Y T G s) 49 5 = 53) ∧
  (∀ T G s, z_r (z_Y T G s) 49 6 = 54) ∧
  (∀ T G s, z_r (z_Y T G s) 56 0 = 57) ∧
  (∀ T G s, z_r (z_Y T G s) 56 1 = 58) ∧
  (∀ T G s, z_r (z_Y T G s) 56 5 = 59) ∧
  (∀ T G s, z_r (z_Y T G s) 56 11 = 60) ∧
  (∀ T G s, z_r (z_Y T G s) 61 0 = 11) ∧
  (∀ T G s, z_r (z_Y T G s) 61 1 = 20) ∧
  (∀ T G s, z_r (z_Y T G s) 61 2 = 62) ∧
  (∀ T G s, z_r (z_Y T G s) 61 3 = 63) ∧
  (∀ T G s, z_r (z_Y T G s) 61 4 = 64) ∧
  (∀ T G s, z_r (z_Y T G s) 65 0 = 11) ∧
  (∀ T G s, z_r (z_Y T G s) 65 1 = 20) ∧
  (∀ T G s, z_r (z_Y T G s) 65 2 = 25) ∧
  (∀ T G s, z_r (z_Y T G s) 65 3 = 61) ∧
  (∀ T G s, z_r (z_Y T G s) 66 0 = 11) ∧
  (∀ T G s, z_r (z_Y T G s) 66 1 = 20) ∧
  (∀ T G s, z_r (z_Y T G s) 66 2 = 27) ∧
  (∀ T G s, z_r (z_Y T G s) 66 3 = 61) ∧
  (∀ T G s, z_r (z_Y T G s) 66 4 = 67) ∧
  (∀ T G s, z_r (z_Y T G s) 66 5 = 68) ∧
  (∀ T G s, z_r (z_Y T G s) 66 6 = 69) ∧
  (∀ T G s, z_r (z_Y T G s) 70 0 = 11) ∧
  (∀ T G s, z_r (z_Y T G s) 70 1 = 20) ∧
  (∀ T G s, z_r (z_Y T G s) 70 2 = 27) ∧
  (∀ T G s, z_r (z_Y T G s) 70 3 = 61) ∧
  (∀ T G s, z_r (z_Y T G s) 70 4 = 71) := ⟨fun _ _ _ => rfl, fun _ _ _ => rfl, fun _ _ _ => rfl, fun _ _ _ => rfl, fun _ _ _ => rfl, fun _ _ _ => rfl, fun _ _ _ => rfl, fun _ _ _ => rfl, fun _ _ _ => rfl, fun _ _ _ => rfl, fun _ _ _ => rfl, fun _ _ _ => rfl, fun _ _ _ => rfl, fun _ _ _ => rfl, fun _ _ _ => rfl, fun _ _ _ => rfl, fun _ _ _ => rfl, fun _ _ _ => rfl, fun _ _ _ => rfl, fun _ _ _ => rfl, fun _ _ _ => rfl, fun _ _ _ => rfl, fun _ _ _ => rfl, fun _ _ _ => rfl, fun _ _ _ => rfl, fun _ _ _ => rfl, fun _ _ _ => rfl, fun _ _ _ => rfl, fun _ _ _ => rfl, fun _ _ _ => rfl, fun _ _ _ => rfl, fun _ _ _ => rfl, fun _ _ _ => rfl, fun _ _ _ => rfl, fun _ _ _ => rfl, fun _ _ _ => rfl, fun _ _ _ => rfl, fun _ _ _ => rfl, fun _ _ _ => rfl, fun _ _ _ => rfl, fun _ _ _ => rfl⟩
set_option maxRecDepth 10000 in
theorem z_tb6 : (∀ T G s, z_r (z_Y T G s) 70 5 = 72) ∧
  (∀ T G s, z_r (z_Y T G s) 70 6 = 73) ∧
  (∀ T G s, z_r (z_Y T G s) 70 7 = 74) ∧
  (∀ T G s, z_r (z_Y T G s) 70 8 = 75) ∧
  (∀ T G s, z_r (z_Y T G s) 70 9 = 76) ∧
  (∀ T G s, z_r (z_Y T G s) 70 10 = 77) ∧
  (∀ T G s, z_r (z_Y T G s) 70 11 = 78) ∧
  (∀ T G s, z_r (z_Y T G s) 70 12 = 79) ∧
  (∀ T G s, z_r (z_Y T G s) 80 0 = 81) ∧
  (∀ T G s, z_r (z_Y T G s) 80 1 = 82) ∧
  (∀ T G s, z_r (z_Y T G s) 80 2 = 83) ∧
  (∀ T G s, z_r (z_Y T G s) 80 3 = 84) ∧
  (∀ T G s, z_r (z_Y T G s) 80 15 = 85) ∧
  (∀ T G s, z_r (z_Y T G s) 80 21 = 86) ∧
  (∀ T G s, z_r (z_Y T G s) 80 22 = 87) ∧
  (∀ T G s, z_r (z_Y T G s) 80 23 = 88) ∧
  (∀ T G s, z_r (z_Y T G s) 80 26 = 89) ∧
  (∀ T G s, z_r (z_Y T G s) 80 27 = 90) ∧
  (∀ T G s, z_r (z_Y T G s) 80 28 = 91) ∧
  (∀ T G s, z_r (z_Y T G s) 80 29 = 92) ∧
  (∀ T G s, z_r (z_Y T G s) 80 30 = 93) ∧
  (∀ T G s, z_r (z_Y T G s) 80 32 = 94) ∧
  (∀ T G s, z_r (z_Y T G s) 80 33 = 95) ∧
  (∀ T G s, z_r (z_Y T G s) 80 34 = 96) ∧
  (∀ T G s, z_r (z_Y T G s) 80 35 = 97) ∧
  (∀ T G s k, z_i (z_Y T G s) 1 k = iI (G 1 k)) ∧
  (∀ T G s k, z_i (z_Y T G s) 2 k = iI (G 2 k)) ∧
  (∀ T G s k, z_i (z_Y T G s) 3 k = iI (G 3 k)) ∧
  (∀ T G s k, z_i (z_Y T G s) 4 k = iI (G 4 k)) ∧
  (∀ T G s k, z_i (z_Y T G s) 5 k = iI (G 5 k)) ∧
  (∀ T G s k, z_i (z_Y T G s) 6 k = iI (G 6 k)) ∧
  (∀ T G s k, z_i (z_Y T G s) 10 k = iI (G 10 k)) ∧
  (∀ T G s k, z_i (z_Y T G s) 11 k = iI (G 11 k)) ∧
  (∀ T G s k, z_i (z_Y T G s) 12 k = iI (G 12 k)) ∧
  (∀ T G s k, z_i (z_Y T G s) 13 k = iI (G 13 k)) ∧
  (∀ T G s k, z_i (z_Y T G s) 14 k = iI (G 14 k)) ∧
  (∀ T G s k, z_i (z_Y T G s) 15 k = iI (G 15 k)) ∧
  (∀ T G s k, z_i (z_Y T G s) 16 k = iI (G 16 k)) ∧
  (∀ T G s k, z_i (z_Y T G s) 17 k = iI (G 17 k)) ∧
  (∀ T G s k, z_i (z_Y T G s) 18 k = iI (G 18 k)) ∧
  (∀ T G s k, z_i (z_Y T G s) 19 k = iI (G 19 k)) := ⟨fun _ _ _ => rfl, fun _ _ _ => rfl, fun _ _ _ => rfl, fun _ _ _ => rfl, fun _ _ _ => rfl, fun _ _ _ => rfl, fun _ _ _ => rfl, fun _ _ _ => rfl, fun _ _ _ => rfl, fun _ _ _ => rfl, fun _ _ _ => rfl, fun _ _ _ => rfl, fun _ _ _ => rfl, fun _ _ _ => rfl, fun _ _ _ => rfl, fun _ _ _ => rfl, fun _ _ _ => rfl, fun _ _ _ => rfl, fun _ _ _ => rfl, fun _ _ _ => rfl, fun _ _ _ => rfl, fun _ _ _ => rfl, fun _ _ _ => rfl, fun _ _ _ => rfl, fun _ _ _ => rfl, fun _ _ _ _ => rfl, fun _ _ _ _ => rfl, fun _ _ _ _ => rfl, fun _ _ _ _ => rfl, fun _ _ _ _ => rfl, fun _ _ _ _ => rfl, fun _ _ _ _ => rfl, fun _ _ _ _ => rfl, fun _ _ _ _ => rfl, fun _ _ _ _ => rfl, fun _ _ _ _ => rfl, fun _ _ _ _ => rfl, fun _ _ _ _ => rfl, fun _ _ _ _ => rfl, fun _ _ _ _ => rfl, fun _ _ _ _ => rfl⟩
set_option maxRecDepth 10000 in
theorem z_tb7 : (∀ T G s k, z_i (z_Y T G s) 20 k = iI (G 20 k)) ∧
  (∀ T G s k, z_i (z_Y T G s) 21 k = iI (G 21 k)) ∧
  (∀ T G s k, z_i (z_Y T G s) 22 k = iI (G 22 k)) ∧
  (∀ T G s k, z_i (z_Y T G s) 23 k = iI (G 23 k)) ∧
  (∀ T G s k, z_i (z_Y T G s) 24 k = iI (G 24 k)) ∧
  (∀ T G s k, z_i (z_Y T G s) 25 k = iI (G 25 k)) ∧
  (∀ T G s k, z_i (z_Y T G s) 26 k = iI (G 26 k)) ∧
  (∀ T G s k, z_i (z_Y T G s) 27 k = iI (G 27 k)) ∧
  (∀ T G s k, z_i (z_Y T G s) 28 k = iI (G 28 k)) ∧
  (∀ T G s k, z_i (z_Y T G s) 29 k = iI (G 29 k)) ∧
  (∀ T G s k, z_i (z_Y T G s) 30 k = iI (G 30 k)) ∧
  (∀ T G s k, z_i (z_Y T G s) 31 k = iI (G 31 k)) ∧
  (∀ T G s k, z_i (z_Y T G s) 32 k = iI (G 32 k)) ∧
  (∀ T G s k, z_i (z_Y T G s) 33 k = iI (G 33 k)) ∧
  (∀ T G s k, z_i (z_Y T G s) 34 k = iI (G 34 k)) ∧
  (∀ T G s k, z_i (z_Y T G s) 35 k = iI (G 35 k)) ∧
  (∀ T G s k, z_i (z_Y T G s) 36 k = iI (G 36 k)) ∧
  (∀ T G s k, z_i (z_Y T G s) 37 k = iI (G 37 k)) ∧
  (∀ T G s k, z_i (z_Y T G s) 38 k = iI (G 38 k)) ∧
  (∀ T G s k, z_i (z_Y T G s) 39 k = iI (G 39 k)) ∧
  (∀ T G s k, z_i (z_Y T G s) 40 k = iI (G 40 k)) ∧
  (∀ T G s k, z_i (z_Y T G s) 41 k = iI (G 41 k)) ∧
  (∀ T G s k, z_i (z_Y T G s) 42 k = iI (G 42 k)) ∧
  (∀ T G s k, z_i (z_Y T G s) 43 k = iI (G 43 k)) ∧
  (∀ T G s k, z_i (z_Y T G s) 44 k = iI (G 44 k)) ∧
  (∀ T G s k, z_i (z_Y T G s) 45 k = iI (G 45 k)) ∧
  (∀ T G s k, z_i (z_Y T G s) 46 k = iI (G 46 k)) ∧
  (∀ T G s k, z_i (z_Y T G s) 47 k = iI (G 47 k)) ∧
  (∀ T G s k, z_i (z_Y T G s) 48 k = iI (G 48 k)) ∧
  (∀ T G s k, z_i (z_Y T G s) 49 k = iI (G 49 k)) ∧
  (∀ T G s k, z_i (z_Y T G s) 50 k = iI (G 50 k)) ∧
  (∀ T G s k, z_i (z_Y T G s) 51 k = iI (G 51 k)) ∧
  (∀ T G s k, z_i (z_Y T G s) 52 k = iI (G 52 k)) ∧
  (∀ T G s k, z_i (z_Y T G s) 53 k = iI (G 53 k)) ∧
  (∀ T G s k, z_i (z_Y T G s) 54 k = iI (G 54 k)) ∧
  (∀ T G s k, z_i (z_Y T G s) 55 k = iI (G 55 k)) ∧
  (∀ T G s k, z_i (z_Y T G s) 56 k = iI (G 56 k)) ∧
  (∀ T G s k, z_i (z_Y T G s) 57 k = iI (G 57 k)) ∧
  (∀ T G s k, z_i (z_Y T G s) 58 k = iI (G 58 k)) ∧
  (∀ T G s k, z_i (z_Y T G s) 59 k = iI (G 59 k)) ∧
  (∀ T G s k, z_i (z_Y T G s) 60 k = iI (G 60 k)) := ⟨fun _ _ _ _ => rfl, fun _ _ _ _ => rfl, fun _ _ _ _ => rfl, fun _ _ _ _ => rfl, fun _ _ _ _ => rfl, fun _ _ _ _ => rfl, fun _ _ _ _ => rfl, fun _ _ _ _ => rfl, fun _ _ _ _ => rfl, fun _ _ _ _ => rfl, fun _ _ _ _ => rfl, fun _ _ _ _ => rfl, fun _ _ _ _ => rfl, fun _ _ _ _ => rfl, fun _ _ _ _ => rfl, fun _ _ _ _ => rfl, fun _ _ _ _ => rfl, fun _ _ _ _ => rfl, fun _ _ _ _ => rfl, fun _ _ _ _ => rfl, fun _ _ _ _ => rfl, fun _ _ _ _ => rfl, fun _ _ _ _ => rfl, fun _ _ _ _ => rfl, fun _ _ _ _ => rfl, fun _ _ _ _ => rfl, fun _ _ _ _ => rfl, fun _ _ _ _ => rfl, fun _ _ _ _ => rfl, fun _ _ _ _ => rfl, fun _ _ _ _ => rfl, fun _ _ _ _ => rfl, fun _ _ _ _ => rfl, fun _ _ _ _ => rfl, fun _ _ _ _ => rfl, fun _ _ _ _ => rfl, fun _ _ _ _ => rfl, fun _ _ _ _ => rfl, fun _ _ _ _ => rfl, fun _ _ _ _ => rfl, fun _ _ _ _ => rfl⟩
set_option maxRecDepth 10000 in
theorem z_tb8 : (∀ T G s k, z_i (z_Y T G s) 61 k = iI (G 61 k)) ∧
  (∀ T G s k, z_i (z_Y T G s) 64 k = iI (G 64 k)) ∧
  (∀ T G s k, z_i (z_Y T G s) 65 k = iI (G 65 k)) ∧
  (∀ T G s k, z_i (z_Y T G s) 66 k = iI (G 66 k)) ∧
  (∀ T G s k, z_i (z_Y T G s) 67 k = iI (G 67 k)) ∧
  (∀ T G s k, z_i (z_Y T G s) 68 k = iI (G 68 k)) ∧
  (∀ T G s k, z_i (z_Y T G s) 69 k = iI (G 69 k)) ∧
  (∀ T G s k, z_i (z_Y T G s) 70 k = iI (G 70 k)) ∧
  (∀ T G s k, z_i (z_Y T G s) 71 k = iI (G 71 k)) ∧
  (∀ T G s k, z_i (z_Y T G s) 72 k = iI (G 72 k)) ∧
  (∀ T G s k, z_i (z_Y T G s) 73 k = iI (G 73 k)) ∧
  (∀ T G s k, z_i (z_Y T G s) 74 k = iI (G 74 k)) ∧
  (∀ T G s k, z_i (z_Y T G s) 75 k = iI (G 75 k)) ∧
  (∀ T G s k, z_i (z_Y T G s) 76 k = iI (G 76 k)) ∧
  (∀ T G s k, z_i (z_Y T G s) 77 k = iI (G 77 k)) ∧
  (∀ T G s k, z_i (z_Y T G s) 78 k = iI (G 78 k)) ∧
  (∀ T G s k, z_i (z_Y T G s) 79 k = iI (G 79 k)) ∧
  (∀ T G s k, z_i (z_Y T G s) 80 k = iI (G 80 k)) ∧
  (∀ T G s k, z_i (z_Y T G s) 81 k = iI (G 81 k)) ∧
  (∀ T G s k, z_i (z_Y T G s) 82 k = iI (G 82 k)) ∧
  (∀ T G s k, z_i (z_Y T G s) 83 k = iI (G 83 k)) ∧
  (∀ T G s k, z_i (z_Y T G s) 84 k = iI (G 84 k)) ∧
  (∀ T G s k, z_i (z_Y T G s) 85 k = iI (G 85 k)) ∧
  (∀ T G s k, z_i (z_Y T G s) 87 k = iI (G 87 k)) ∧
  (∀ T G s k, z_i (z_Y T G s) 89 k = iI (G 89 k)) ∧
  (∀ T G s k, z_i (z_Y T G s) 90 k = iI (G 90 k)) ∧
  (∀ T G s k, z_i (z_Y T G s) 91 k = iI (G 91 k)) ∧
  (∀ T G s k, z_i (z_Y T G s) 92 k = iI (G 92 k)) ∧
  (∀ T G s k, z_i (z_Y T G s) 93 k = iI (G 93 k)) ∧
  (∀ T G s k, z_i (z_Y T G s) 94 k = iI (G 94 k)) ∧
  (∀ T G s k, z_i (z_Y T G s) 95 k = iI (G 95 k)) ∧
  (∀ T G s k, z_i (z_Y T G s) 96 k = iI (G 96 k)) ∧
  (∀ T G s k, z_i (z_Y T G s) 97 k = iI (G 97 k)) := ⟨fun _ _ _ _ => rfl, fun _ _ _ _ => rfl, fun _ _ _ _ => rfl, fun _ _ _ _ => rfl, fun _ _ _ _ => rfl, fun _ _ _ _ => rfl, fun _ _ _ _ => rfl, fun _ _ _ _ => rfl, fun _ _ _ _ => rfl, fun _ _ _ _ => rfl, fun _ _ _ _ => rfl, fun _ _ _ _ => rfl, fun _ _ _ _ => rfl, fun _ _ _ _ => rfl, fun _ _ _ _ => rfl, fun _ _ _ _ => rfl, fun _ _ _ _ => rfl, fun _ _ _ _ => rfl, fun _ _ _ _ => rfl, fun _ _ _ _ => rfl, fun _ _ _ _ => rfl, fun _ _ _ _ => rfl, fun _ _ _ _ => rfl, fun _ _ _ _ => rfl, fun _ _ _ _ => rfl, fun _ _ _ _ => rfl, fun _ _ _ _ => rfl, fun _ _ _ _ => rfl, fun _ _ _ _ => rfl, fun _ _ _ _ => rfl, fun _ _ _ _ => rfl, fun _ _ _ _ => rfl, fun _ _ _ _ => rfl⟩
theorem z_tbl : (Nat.ble 20 20 = true) ∧ (Nat.ble 20 21 = true) ∧ (Nat.ble 20 22 = true) ∧ (Nat.ble 20 23 = true) ∧ (Nat.ble 20 24 = true) ∧ (Nat.ble 20 24 = true) ∧ (Nat.ble 21 24 = true) ∧ (Nat.ble 22 24 = true) ∧ (Nat.ble 23 24 = true) ∧ (Nat.ble 24 24 = true) ∧ (Nat.ble 10 10 = true) ∧ (Nat.ble 10 11 = true) ∧ (Nat.ble 10 12 = true) ∧ (Nat.ble 10 13 = true) ∧ (Nat.ble 10 14 = true) ∧ (Nat.ble 10 15 = true) ∧ (Nat.ble 10 16 = true) ∧ (Nat.ble 10 17 = true) ∧ (Nat.ble 10 18 = true) ∧ (Nat.ble 10 19 = true) ∧ (Nat.ble 10 20 = true) ∧ (Nat.ble 10 21 = true) ∧ (Nat.ble 10 22 = true) ∧ (Nat.ble 10 23 = true) ∧ (Nat.ble 10 24 = true) ∧ (Nat.ble 10 25 = true) ∧ (Nat.ble 10 26 = true) ∧ (Nat.ble 10 27 = true) ∧ (Nat.ble 10 28 = true) ∧ (Nat.ble 10 29 = true) ∧ (Nat.ble 10 30 = true) ∧ (Nat.ble 10 31 = true) ∧ (Nat.ble 10 32 = true) ∧ (Nat.ble 10 33 = true) ∧ (Nat.ble 10 34 = true) ∧ (Nat.ble 10 35 = true) ∧ (Nat.ble 10 36 = true) ∧ (Nat.ble 10 37 = true) ∧ (Nat.ble 10 38 = true) ∧ (Nat.ble 10 39 = true) ∧ (Nat.ble 10 40 = true) ∧ (Nat.ble 10 41 = true) ∧ (Nat.ble 10 42 = true) ∧ (Nat.ble 10 43 = true) ∧ (Nat.ble 10 44 = true) ∧ (Nat.ble 10 45 = true) ∧ (Nat.ble 10 46 = true) ∧ (Nat.ble 10 47 = true) ∧ (Nat.ble 10 48 = true) ∧ (Nat.ble 10 49 = true) ∧ (Nat.ble 10 50 = true) ∧ (Nat.ble 10 51 = true) ∧ (Nat.ble 10 52 = true) ∧ (Nat.ble 10 53 = true) ∧ (Nat.ble 10 54 = true) ∧ (Nat.ble 10 55 = true) ∧ (Nat.ble 10 56 = true) ∧ (Nat.ble 10 57 = true) ∧ (Nat.ble 10 58 = true) ∧ (Nat.ble 10 59 = true) ∧ (Nat.ble 10 60 = true) ∧ (Nat.ble 10 61 = true) ∧ (Nat.ble 10 62 = true) ∧ (Nat.ble 10 63 = true) ∧ (Nat.ble 10 64 = true) ∧ (Nat.ble 10 65 = true) ∧ (Nat.ble 10 66 = true) ∧ (Nat.ble 10 67 = true) ∧ (Nat.ble 10 68 = true) ∧ (Nat.ble 10 69 = true) ∧ (Nat.ble 10 70 = true) ∧ (Nat.ble 10 71 = true) ∧ (Nat.ble 10 72 = true) ∧ (Nat.ble 10 73 = true) ∧ (Nat.ble 10 74 = true) ∧ (Nat.ble 10 75 = true) ∧ (Nat.ble 10 76 = true) ∧ (Nat.ble 10 77 = true) ∧ (Nat.ble 10 78 = true) ∧ (Nat.ble 10 79 = true) ∧ (Nat.ble 10 80 = true) ∧ (Nat.ble 10 81 = true) ∧ (Nat.ble 10 82 = true) ∧ (Nat.ble 10 83 = true) ∧ (Nat.ble 10 84 = true) ∧ (Nat.ble 10 85 = true) ∧ (Nat.ble 10 86 = true) ∧ (Nat.ble 10 87 = true) ∧ (Nat.ble 10 88 = true) ∧ (Nat.ble 10 89 = true) ∧ (Nat.ble 10 90 = true) ∧ (Nat.ble 10 91 = true) ∧ (Nat.ble 10 92 = true) ∧ (Nat.ble 10 93 = true) ∧ (Nat.ble 10 94 = true) ∧ (Nat.ble 10 95 = true) ∧ (Nat.ble 10 96 = true) ∧ (Nat.ble 10 97 = true) := ⟨rfl, rfl, rfl, rfl, rfl, rfl, rfl, rfl, rfl, rfl, rfl, rfl, rfl, rfl, rfl, rfl, rfl, rfl, rfl, rfl, rfl, rfl, rfl, rfl, rfl, rfl, rfl, rfl, rfl, rfl, rfl, rfl, rfl, rfl, rfl, rfl, rfl, rfl, rfl, rfl, rfl, rfl, rfl, rfl, rfl, rfl, rfl, rfl, rfl, rfl, rfl, rfl, rfl, rfl, rfl, rfl, rfl, rfl, rfl, rfl, rfl, rfl, rfl, rfl, rfl, rfl, rfl, rfl, rfl, rfl, rfl, rfl, rfl, rfl, rfl, rfl, rfl, rfl, rfl, rfl, rfl, rfl, rfl, rfl, rfl, rfl, rfl, rfl, rfl, rfl, rfl, rfl, rfl, rfl, rfl, rfl, rfl, rfl⟩
theorem z_kd_T (T : ZT) (G : ZG) (s : ZG × ZG) (r : Nat) : z_kd (z_Y T G s) r = (z_kt T r).1 := rfl
theorem z_ln_T (T : ZT) (G : ZG) (s : ZG × ZG) (r : Nat) : z_ln (z_Y T G s) r = (z_kt T r).2 := rfl
theorem z_sz_Y (T : ZT) (G : ZG) (s : ZG × ZG) : z_sz (z_Y T G s) = T.2.2.1 := rfl
theorem z_sw_Y (T : ZT) (G : ZG) (s : ZG × ZG) : z_sw (z_Y T G s) = T.2.2.2 := rfl
/-- a row is set; an element of a row is set -/
def z_up (G : ZG) (r : Nat) (w : Int → Int) : ZG := fun r' => if r' = r then w else G r'
def z_ro (A : Int → Int) (k x : Int) : Int → Int := fun k' => if k' = k then x else A k'
theorem z_up_eq (G : ZG) (r : Nat) (w : Int → Int) : z_up G r w r = w := if_pos rfl
theorem z_up_app (G : ZG) (r r' : Nat) (w : Int → Int) : z_up G r w r' = if r' = r then w else G r' := rfl
theorem z_up_ne (G : ZG) {r r' : Nat} (w : Int → Int) (h : r' ≠ r) : z_up G r w r' = G r' := if_neg h
theorem z_up_up (G : ZG) (r : Nat) (w w' : Int → Int) : z_up (z_up G r w) r w' = z_up G r w' := by
  funext a; unfold z_up; split <;> rfl
theorem z_up_id (G : ZG) (r : Nat) : z_up G r (G r) = G := by
  funext a; unfold z_up; split
  · rename_i h; rw [h]
  · rfl
theorem z_up_self {G : ZG} {r : Nat} {w : Int → Int} (h : w = G r) : z_up G r w = G := by rw [h, z_up_id]
theorem z_up_cm (G : ZG) {r r' : Nat} (w w' : Int → Int) (h : r' < r) : z_up (z_up G r w) r' w' = z_up (z_up G r' w') r w := by
  funext a; unfold z_up
  by_cases h1 : a = r' <;> by_cases h2 : a = r <;> simp only [h1, h2, if_true, if_false] <;> first | omega | rfl | (rw [if_neg (by omega)]) | (rw [if_neg (by omega), if_pos rfl])
theorem z_ro_eq (A : Int → Int) (k x : Int) : z_ro A k x k = x := if_pos rfl
theorem z_ro_pos (A : Int → Int) {k k' : Int} (x : Int) (h : k' = k) : z_ro A k x k' = x := if_pos h
theorem z_ro_ne (A : Int → Int) {k k' : Int} (x : Int) (h : k' ≠ k) : z_ro A k x k' = A k' := if_neg h
theorem z_ro_ro (A : Int → Int) (k x y : Int) : z_ro (z_ro A k x) k y = z_ro A k y := by
  funext a; unfold z_ro; split <;> rfl
theorem z_ro_id (A : Int → Int) (k : Int) : z_ro A k (A k) = A := by
  funext a; unfold z_ro; split
  · rename_i h; rw [h]
  · rfl
theorem z_ro_cm (A : Int → Int) {k k' : Int} (x y : Int) (h : k ≠ k') : z_ro (z_ro A k x) k' y = z_ro (z_ro A k' y) k x := by
  funext a; unfold z_ro
  by_cases h1 : a = k' <;> by_cases h2 : a = k
  · omega
  · simp only [h1, if_true]; rw [if_neg (by omega)]
  · simp only [h2, if_true]; rw [if_neg (by omega)]
  · simp only [h1, h2, if_false]
theorem z_sc_no {r : Nat} (h : r ≠ 62 ∧ r ≠ 63 ∧ r ≠ 86 ∧ r ≠ 88) : z_sc r = false := by
  have q : ∀ k, r ≠ k → Nat.beq r k = false := fun k hk => by
    cases e : Nat.beq r k with
    | false => rfl
    | true => exact absurd (Nat.eq_of_beq_eq_true e) hk
  unfold z_sc
  rw [q _ h.1, q _ h.2.1, q _ h.2.2.1, q _ h.2.2.2]; rfl
theorem z_i_Y (T : ZT) (G : ZG) (s : ZG × ZG) {r : Nat} (k : Nat) (h : r ≠ 62 ∧ r ≠ 63 ∧ r ≠ 86 ∧ r ≠ 88) : z_i (z_Y T G s) r k = iI (G r k) := by
  show iI (cond (z_sc r) _ _) = _
  rw [z_sc_no h]; rfl
theorem z_i_62 (T : ZT) (G : ZG) (s : ZG × ZG) (k : Nat) : z_i (z_Y T G s) 62 k = iI (s.1 62 k) := rfl
theorem z_i_63 (T : ZT) (G : ZG) (s : ZG × ZG) (k : Nat) : z_i (z_Y T G s) 63 k = iI (s.1 63 k) := rfl
theorem z_i_86 (T : ZT) (G : ZG) (s : ZG × ZG) (k : Nat) : z_i (z_Y T G s) 86 k = iI (s.1 86 k) := rfl
theorem z_i_88 (T : ZT) (G : ZG) (s : ZG × ZG) (k : Nat) : z_i (z_Y T G s) 88 k = iI (s.1 88 k) := rfl
theorem z_l_Y (T : ZT) (G : ZG) (s : ZG × ZG) (r k : Nat) : z_l (z_Y T G s) r k = lI (s.2 r k) := rfl
theorem z_ui_Y (T : ZT) (G : ZG) (s : ZG × ZG) {r : Nat} (k : Nat) (x : Int) (h : r ≠ 62 ∧ r ≠ 63 ∧ r ≠ 86 ∧ r ≠ 88) : z_ui (z_Y T G s) r k (iI x) = z_Y T (z_up G r (z_ro (G r) k x)) s := by
  unfold z_ui z_Y
  refine Prod.ext rfl (Prod.ext ?_ rfl)
  funext a j
  dsimp only
  by_cases h1 : a = r
  · rw [h1, z_sc_no h]
    unfold z_up z_ro
    simp only [if_true, true_and, cond_false]
    by_cases h2 : j = k
    · rw [if_pos h2, if_pos (by omega)]
    · rw [if_neg h2, if_neg (by omega)]
  · rw [if_neg (fun q => h1 q.1)]
    unfold z_up
    rw [if_neg h1]
theorem z_ui_Ys (T : ZT) (G : ZG) (s : ZG × ZG) {r : Nat} (k : Nat) (x : Int) (h : z_sc r = true) : z_ui (z_Y T G s) r k (iI x) = z_Y T G (z_up s.1 r (z_ro (s.1 r) k x), s.2) := by
  unfold z_ui z_Y
  refine Prod.ext rfl (Prod.ext ?_ rfl)
  funext a j
  dsimp only
  by_cases h1 : a = r
  · rw [h1, h]
    unfold z_up z_ro
    simp only [if_true, true_and, cond_true]
    by_cases h2 : j = k
    · rw [if_pos h2, if_pos (by omega)]
    · rw [if_neg h2, if_neg (by omega)]
  · rw [if_neg (fun q => h1 q.1)]
    unfold z_up
    rw [if_neg h1]
theorem z_ui_62 (T : ZT) (G : ZG) (s : ZG × ZG) (k : Nat) (x : Int) : z_ui (z_Y T G s) 62 k (iI x) = z_Y T G (z_up s.1 62 (z_ro (s.1 62) k x), s.2) := z_ui_Ys T G s k x rfl
theorem z_ui_63 (T : ZT) (G : ZG) (s : ZG × ZG) (k : Nat) (x : Int) : z_ui (z_Y T G s) 63 k (iI x) = z_Y T G (z_up s.1 63 (z_ro (s.1 63) k x), s.2) := z_ui_Ys T G s k x rfl
theorem z_ui_86 (T : ZT) (G : ZG) (s : ZG × ZG) (k : Nat) (x : Int) : z_ui (z_Y T G s) 86 k (iI x) = z_Y T G (z_up s.1 86 (z_ro (s.1 86) k x), s.2) := z_ui_Ys T G s k x rfl
theorem z_ui_88 (T : ZT) (G : ZG) (s : ZG × ZG) (k : Nat) (x : Int) : z_ui (z_Y T G s) 88 k (iI x) = z_Y T G (z_up s.1 88 (z_ro (s.1 88) k x), s.2) := z_ui_Ys T G s k x rfl
theorem z_ul_Y (T : ZT) (G : ZG) (s : ZG × ZG) (r k : Nat) (x : Int) : z_ul (z_Y T G s) r k (lI x) = z_Y T G (s.1, z_up s.2 r (z_ro (s.2 r) k x)) := by
  unfold z_ul z_Y
  refine Prod.ext rfl (Prod.ext rfl (Prod.ext ?_ rfl))
  funext a j
  dsimp only
  by_cases h1 : a = r
  · unfold z_up z_ro
    simp only [h1, if_true, true_and]
    by_cases h2 : j = k
    · rw [if_pos h2, if_pos (by omega)]
    · rw [if_neg h2, if_neg (by omega)]
  · rw [if_neg (fun q => h1 q.1)]
    unfold z_up
    rw [if_neg h1]
/-- ints copied: a row with a piece of another -/
def z_cpr (A B : Int → Int) (sp dp n : Int) : Int → Int := fun k => if dp ≤ k ∧ k < dp + n then A (sp + (k - dp)) else B k
theorem z_cp_Y (T : ZT) (G : ZG) (s : ZG × ZG) {a b : Nat} (sp dp n : Nat) (ha : a ≠ 62 ∧ a ≠ 63 ∧ a ≠ 86 ∧ a ≠ 88) (hb : b ≠ 62 ∧ b ≠ 63 ∧ b ≠ 86 ∧ b ≠ 88) : z_cp (z_Y T G s) a sp b dp n = z_Y T (z_up G b (z_cpr (G a) (G b) sp dp n)) s := by
  unfold z_cp z_Y
  refine Prod.ext rfl (Prod.ext ?_ rfl)
  funext c j
  dsimp only
  by_cases h1 : c = b
  · rw [h1, z_sc_no hb, z_sc_no ha]
    unfold z_up z_cpr
    simp only [if_true, true_and, cond_false]
    by_cases h2 : dp ≤ j ∧ j < dp + n
    · rw [if_pos h2, if_pos (by omega)]
      congr 2
      omega
    · rw [if_neg h2, if_neg (by omega)]
  · rw [if_neg (fun q => h1 q.1)]
    unfold z_up
    rw [if_neg h1]
/-- what a call leaves: an answer, the same ints, anything in the small rows -/
def z_q (T : ZT) (G : ZG) (y : ZV) : ZV → ZM → Prop := fun v τ => v = y ∧ ∃ s, τ = z_Y T G s
theorem ok_q {T : ZT} {G : ZG} {y : ZV} {s : ZG × ZG} : z_ok (some (y, z_Y T G s)) (z_q T G y) := ⟨_, _, rfl, rfl, s, rfl⟩
theorem ok_q' {T : ZT} {G G' : ZG} {y y' : ZV} {s : ZG × ZG} (h : y = y') (h2 : G = G') : z_ok (some (y, z_Y T G s)) (z_q T G' y') := by rw [h, h2]; exact ok_q
theorem ok_cI {x : ZR} {T : ZT} {G : ZG} {a : Int32} {f : Int32 → ZM → ZR} {Q : ZV → ZM → Prop} (h : z_ok x (z_q T G (vi a))) (k : ∀ s, z_ok (f a (z_Y T G s)) Q) : z_ok (z_bI x f) Q := by
  obtain ⟨v, τ, e, rfl, s, rfl⟩ := h
  rw [e]; exact k s
theorem ok_cL {x : ZR} {T : ZT} {G : ZG} {a : Int64} {f : Int64 → ZM → ZR} {Q : ZV → ZM → Prop} (h : z_ok x (z_q T G (vl a))) (k : ∀ s, z_ok (f a (z_Y T G s)) Q) : z_ok (z_bL x f) Q := by
  obtain ⟨v, τ, e, rfl, s, rfl⟩ := h
  rw [e]; exact k s
theorem ok_cV {x : ZR} {T : ZT} {G : ZG} {a : Int32} {f : ZM → ZR} {Q : ZV → ZM → Prop} (h : z_ok x (z_q T G (vi a))) (k : ∀ s, z_ok (f (z_Y T G s)) Q) : z_ok (z_bV x f) Q := by
  obtain ⟨v, τ, e, rfl, s, rfl⟩ := h
  rw [e]; exact k s
theorem ok_call {x : ZR} {T : ZT} {G G' : ZG} {y y' : ZV} (h : z_ok x (z_q T G y)) (e : y = y') (e2 : G = G') : z_ok x (z_q T G' y') := by rw [← e, ← e2]; exact h

theorem z_tu0 : (∀ T G s k x, z_ui (z_Y T G s) 10 k (iI x) = z_Y T (z_up G 10 (z_ro (G 10) k x)) s) ∧
  (∀ T G s k x, z_ui (z_Y T G s) 11 k (iI x) = z_Y T (z_up G 11 (z_ro (G 11) k x)) s) ∧
  (∀ T G s k x, z_ui (z_Y T G s) 12 k (iI x) = z_Y T (z_up G 12 (z_ro (G 12) k x)) s) ∧
  (∀ T G s k x, z_ui (z_Y T G s) 13 k (iI x) = z_Y T (z_up G 13 (z_ro (G 13) k x)) s) ∧
  (∀ T G s k x, z_ui (z_Y T G s) 14 k (iI x) = z_Y T (z_up G 14 (z_ro (G 14) k x)) s) ∧
  (∀ T G s k x, z_ui (z_Y T G s) 15 k (iI x) = z_Y T (z_up G 15 (z_ro (G 15) k x)) s) ∧
  (∀ T G s k x, z_ui (z_Y T G s) 16 k (iI x) = z_Y T (z_up G 16 (z_ro (G 16) k x)) s) ∧
  (∀ T G s k x, z_ui (z_Y T G s) 17 k (iI x) = z_Y T (z_up G 17 (z_ro (G 17) k x)) s) ∧
  (∀ T G s k x, z_ui (z_Y T G s) 18 k (iI x) = z_Y T (z_up G 18 (z_ro (G 18) k x)) s) ∧
  (∀ T G s k x, z_ui (z_Y T G s) 19 k (iI x) = z_Y T (z_up G 19 (z_ro (G 19) k x)) s) ∧
  (∀ T G s k x, z_ui (z_Y T G s) 20 k (iI x) = z_Y T (z_up G 20 (z_ro (G 20) k x)) s) ∧
  (∀ T G s k x, z_ui (z_Y T G s) 21 k (iI x) = z_Y T (z_up G 21 (z_ro (G 21) k x)) s) ∧
  (∀ T G s k x, z_ui (z_Y T G s) 22 k (iI x) = z_Y T (z_up G 22 (z_ro (G 22) k x)) s) ∧
  (∀ T G s k x, z_ui (z_Y T G s) 23 k (iI x) = z_Y T (z_up G 23 (z_ro (G 23) k x)) s) ∧
  (∀ T G s k x, z_ui (z_Y T G s) 24 k (iI x) = z_Y T (z_up G 24 (z_ro (G 24) k x)) s) ∧
  (∀ T G s k x, z_ui (z_Y T G s) 25 k (iI x) = z_Y T (z_up G 25 (z_ro (G 25) k x)) s) ∧
  (∀ T G s k x, z_ui (z_Y T G s) 26 k (iI x) = z_Y T (z_up G 26 (z_ro (G 26) k x)) s) ∧
  (∀ T G s k x, z_ui (z_Y T G s) 27 k (iI x) = z_Y T (z_up G 27 (z_ro (G 27) k x)) s) ∧
  (∀ T G s k x, z_ui (z_Y T G s) 28 k (iI x) = z_Y T (z_up G 28 (z_ro (G 28) k x)) s) ∧
  (∀ T G s k x, z_ui (z_Y T G s) 29 k (iI x) = z_Y T (z_up G 29 (z_ro (G 29) k x)) s) ∧
  (∀ T G s k x, z_ui (z_Y T G s) 30 k (iI x) = z_Y T (z_up G 30 (z_ro (G 30) k x)) s) ∧
  (∀ T G s k x, z_ui (z_Y T G s) 31 k (iI x) = z_Y T (z_up G 31 (z_ro (G 31) k x)) s) ∧
  (∀ T G s k x, z_ui (z_Y T G s) 32 k (iI x) = z_Y T (z_up G 32 (z_ro (G 32) k x)) s) ∧
  (∀ T G s k x, z_ui (z_Y T G s) 33 k (iI x) = z_Y T (z_up G 33 (z_ro (G 33) k x)) s) ∧
  (∀ T G s k x, z_ui (z_Y T G s) 34 k (iI x) = z_Y T (z_up G 34 (z_ro (G 34) k x)) s) ∧
  (∀ T G s k x, z_ui (z_Y T G s) 35 k (iI x) = z_Y T (z_up G 35 (z_ro (G 35) k x)) s) ∧
  (∀ T G s k x, z_ui (z_Y T G s) 36 k (iI x) = z_Y T (z_up G 36 (z_ro (G 36) k x)) s) ∧
  (∀ T G s k x, z_ui (z_Y T G s) 37 k (iI x) = z_Y T (z_up G 37 (z_ro (G 37) k x)) s) ∧
  (∀ T G s k x, z_ui (z_Y T G s) 38 k (iI x) = z_Y T (z_up G 38 (z_ro (G 38) k x)) s) ∧
  (∀ T G s k x, z_ui (z_Y T G s) 39 k (iI x) = z_Y T (z_up G 39 (z_ro (G 39) k x)) s) ∧
  (∀ T G s k x, z_ui (z_Y T G s) 40 k (iI x) = z_Y T (z_up G 40 (z_ro (G 40) k x)) s) ∧
  (∀ T G s k x, z_ui (z_Y T G s) 41 k (iI x) = z_Y T (z_up G 41 (z_ro (G 41) k x)) s) ∧
  (∀ T G s k x, z_ui (z_Y T G s) 42 k (iI x) = z_Y T (z_up G 42 (z_ro (G 42) k x)) s) ∧
  (∀ T G s k x, z_ui (z_Y T G s) 43 k (iI x) = z_Y T (z_up G 43 (z_ro (G 43) k x)) s) ∧
  (∀ T G s k x, z_ui (z_Y T G s) 44 k (iI x) = z_Y T (z_up G 44 (z_ro (G 44) k x)) s) ∧
  (∀ T G s k x, z_ui (z_Y T G s) 45 k (iI x) = z_Y T (z_up G 45 (z_ro (G 45) k x)) s) ∧
  (∀ T G s k x, z_ui (z_Y T G s) 46 k (iI x) = z_Y T (z_up G 46 (z_ro (G 46) k x)) s) ∧
  (∀ T G s k x, z_ui (z_Y T G s) 47 k (iI x) = z_Y T (z_up G 47 (z_ro (G 47) k x)) s) ∧
  (∀ T G s k x, z_ui (z_Y T G s) 48 k (iI x) = z_Y T (z_up G 48 (z_ro (G 48) k x)) s) ∧
  (∀ T G s k x, z_ui (z_Y T G s) 49 k (iI x) = z_Y T (z_up G 49 (z_ro (G 49) k x)) s) := ⟨fun T G s k x => z_ui_Y T G s k x (by decide), fun T G s k x => z_ui_Y T G s k x (by decide), fun T G s k x => z_ui_Y T G s k x (by decide), fun T G s k x => z_ui_Y T G s k x (by decide), fun T G s k x => z_ui_Y T G s k x (by decide), fun T G s k x => z_ui_Y T G s k x (by decide), fun T G s k x => z_ui_Y T G s k x (by decide), fun T G s k x => z_ui_Y T G s k x (by decide), fun T G s k x => z_ui_Y T G s k x (by decide), fun T G s k x => z_ui_Y T G s k x (by decide), fun T G s k x => z_ui_Y T G s k x (by decide), fun T G s k x => z_ui_Y T G s k x (by decide), fun T G s k x => z_ui_Y T G s k x (by decide), fun T G s k x => z_ui_Y T G s k x (by decide), fun T G s k x => z_ui_Y T G s k x (by decide), fun T G s k x => z_ui_Y T G s k x (by decide), fun T G s k x => z_ui_Y T G s k x (by decide), fun T G s k x => z_ui_Y T G s k x (by decide), fun T G s k x => z_ui_Y T G s k x (by decide), fun T G s k x => z_ui_Y T G s k x (by decide), fun T G s k x => z_ui_Y T G s k x (by decide), fun T G s k x => z_ui_Y T G s k x (by decide), fun T G s k x => z_ui_Y T G s k x (by decide), fun T G s k x => z_ui_Y T G s k x (by decide), fun T G s k x => z_ui_Y T G s k x (by decide), fun T G s k x => z_ui_Y T G s k x (by decide), fun T G s k x => z_ui_Y T G s k x (by decide), fun T G s k x => z_ui_Y T G s k x (by decide), fun T G s k x => z_ui_Y T G s k x (by decide), fun T G s k x => z_ui_Y T G s k x (by decide), fun T G s k x => z_ui_Y T G s k x (by decide), fun T G s k x => z_ui_Y T G s k x (by decide), fun T G s k x => z_ui_Y T G s k x (by decide), fun T G s k x => z_ui_Y T G s k x (by decide), fun T G s k x => z_ui_Y T G s k x (by decide), fun T G s k x => z_ui_Y T G s k x (by decide), fun T G s k x => z_ui_Y T G s k x (by decide), fun T G s k x => z_ui_Y T G s k x (by decide), fun T G s k x => z_ui_Y T G s k x (by decide), fun T G s k x => z_ui_Y T G s k x (by decide)⟩
theorem z_tu1 : (∀ T G s k x, z_ui (z_Y T G s) 50 k (iI x) = z_Y T (z_up G 50 (z_ro (G 50) k x)) s) ∧
  (∀ T G s k x, z_ui (z_Y T G s) 51 k (iI x) = z_Y T (z_up G 51 (z_ro (G 51) k x)) s) ∧
  (∀ T G s k x, z_ui (z_Y T G s) 52 k (iI x) = z_Y T (z_up G 52 (z_ro (G 52) k x)) s) ∧
  (∀ T G s k x, z_ui (z_Y T G s) 53 k (iI x) = z_Y T (z_up G 53 (z_ro (G 53) k x)) s) ∧
  (∀ T G s k x, z_ui (z_Y T G s) 54 k (iI x) = z_Y T (z_up G 54 (z_ro (G 54) k x)) s) ∧
  (∀ T G s k x, z_ui (z_Y T G s) 55 k (iI x) = z_Y T (z_up G 55 (z_ro (G 55) k x)) s) ∧
  (∀ T G s k x, z_ui (z_Y T G s) 56 k (iI x) = z_Y T (z_up G 56 (z_ro (G 56) k x)) s) ∧
  (∀ T G s k x, z_ui (z_Y T G s) 57 k (iI x) = z_Y T (z_up G 57 (z_ro (G 57) k x)) s) ∧
  (∀ T G s k x, z_ui (z_Y T G s) 58 k (iI x) = z_Y T (z_up G 58 (z_ro (G 58) k x)) s) ∧
  (∀ T G s k x, z_ui (z_Y T G s) 59 k (iI x) = z_Y T (z_up G 59 (z_ro (G 59) k x)) s) ∧
  (∀ T G s k x, z_ui (z_Y T G s) 60 k (iI x) = z_Y T (z_up G 60 (z_ro (G 60) k x)) s) ∧
  (∀ T G s k x, z_ui (z_Y T G s) 61 k (iI x) = z_Y T (z_up G 61 (z_ro (G 61) k x)) s) ∧
  (∀ T G s k x, z_ui (z_Y T G s) 64 k (iI x) = z_Y T (z_up G 64 (z_ro (G 64) k x)) s) ∧
  (∀ T G s k x, z_ui (z_Y T G s) 65 k (iI x) = z_Y T (z_up G 65 (z_ro (G 65) k x)) s) ∧
  (∀ T G s k x, z_ui (z_Y T G s) 66 k (iI x) = z_Y T (z_up G 66 (z_ro (G 66) k x)) s) ∧
  (∀ T G s k x, z_ui (z_Y T G s) 67 k (iI x) = z_Y T (z_up G 67 (z_ro (G 67) k x)) s) ∧
  (∀ T G s k x, z_ui (z_Y T G s) 68 k (iI x) = z_Y T (z_up G 68 (z_ro (G 68) k x)) s) ∧
  (∀ T G s k x, z_ui (z_Y T G s) 69 k (iI x) = z_Y T (z_up G 69 (z_ro (G 69) k x)) s) ∧
  (∀ T G s k x, z_ui (z_Y T G s) 70 k (iI x) = z_Y T (z_up G 70 (z_ro (G 70) k x)) s) ∧
  (∀ T G s k x, z_ui (z_Y T G s) 71 k (iI x) = z_Y T (z_up G 71 (z_ro (G 71) k x)) s) ∧
  (∀ T G s k x, z_ui (z_Y T G s) 72 k (iI x) = z_Y T (z_up G 72 (z_ro (G 72) k x)) s) ∧
  (∀ T G s k x, z_ui (z_Y T G s) 73 k (iI x) = z_Y T (z_up G 73 (z_ro (G 73) k x)) s) ∧
  (∀ T G s k x, z_ui (z_Y T G s) 74 k (iI x) = z_Y T (z_up G 74 (z_ro (G 74) k x)) s) ∧
  (∀ T G s k x, z_ui (z_Y T G s) 75 k (iI x) = z_Y T (z_up G 75 (z_ro (G 75) k x)) s) ∧
  (∀ T G s k x, z_ui (z_Y T G s) 76 k (iI x) = z_Y T (z_up G 76 (z_ro (G 76) k x)) s) ∧
  (∀ T G s k x, z_ui (z_Y T G s) 77 k (iI x) = z_Y T (z_up G 77 (z_ro (G 77) k x)) s) ∧
  (∀ T G s k x, z_ui (z_Y T G s) 78 k (iI x) = z_Y T (z_up G 78 (z_ro (G 78) k x)) s) ∧
  (∀ T G s k x, z_ui (z_Y T G s) 79 k (iI x) = z_Y T (z_up G 79 (z_ro (G 79) k x)) s) ∧
  (∀ T G s k x, z_ui (z_Y T G s) 80 k (iI x) = z_Y T (z_up G 80 (z_ro (G 80) k x)) s) ∧
  (∀ T G s k x, z_ui (z_Y T G s) 81 k (iI x) = z_Y T (z_up G 81 (z_ro (G 81) k x)) s) ∧
  (∀ T G s k x, z_ui (z_Y T G s) 82 k (iI x) = z_Y T (z_up G 82 (z_ro (G 82) k x)) s) ∧
  (∀ T G s k x, z_ui (z_Y T G s) 83 k (iI x) = z_Y T (z_up G 83 (z_ro (G 83) k x)) s) ∧
  (∀ T G s k x, z_ui (z_Y T G s) 84 k (iI x) = z_Y T (z_up G 84 (z_ro (G 84) k x)) s) ∧
  (∀ T G s k x, z_ui (z_Y T G s) 85 k (iI x) = z_Y T (z_up G 85 (z_ro (G 85) k x)) s) ∧
  (∀ T G s k x, z_ui (z_Y T G s) 87 k (iI x) = z_Y T (z_up G 87 (z_ro (G 87) k x)) s) ∧
  (∀ T G s k x, z_ui (z_Y T G s) 89 k (iI x) = z_Y T (z_up G 89 (z_ro (G 89) k x)) s) ∧
  (∀ T G s k x, z_ui (z_Y T G s) 90 k (iI x) = z_Y T (z_up G 90 (z_ro (G 90) k x)) s) ∧
  (∀ T G s k x, z_ui (z_Y T G s) 91 k (iI x) = z_Y T (z_up G 91 (z_ro (G 91) k x)) s) ∧
  (∀ T G s k x, z_ui (z_Y T G s) 92 k (iI x) = z_Y T (z_up G 92 (z_ro (G 92) k x)) s) ∧
  (∀ T G s k x, z_ui (z_Y T G s) 93 k (iI x) = z_Y T (z_up G 93 (z_ro (G 93) k x)) s) := ⟨fun T G s k x => z_ui_Y T G s k x (by decide), fun T G s k x => z_ui_Y T G s k x (by decide), fun T G s k x => z_ui_Y T G s k x (by decide), fun T G s k x => z_ui_Y T G s k x (by decide), fun T G s k x => z_ui_Y T G s k x (by decide), fun T G s k x => z_ui_Y T G s k x (by decide), fun T G s k x => z_ui_Y T G s k x (by decide), fun T G s k x => z_ui_Y T G s k x (by decide), fun T G s k x => z_ui_Y T G s k x (by decide), fun T G s k x => z_ui_Y T G s k x (by decide), fun T G s k x => z_ui_Y T G s k x (by decide), fun T G s k x => z_ui_Y T G s k x (by decide), fun T G s k x => z_ui_Y T G s k x (by decide), fun T G s k x => z_ui_Y T G s k x (by decide), fun T G s k x => z_ui_Y T G s k x (by decide), fun T G s k x => z_ui_Y T G s k x (by decide), fun T G s k x => z_ui_Y T G s k x (by decide), fun T G s k x => z_ui_Y T G s k x (by decide), fun T G s k x => z_ui_Y T G s k x (by decide), fun T G s k x => z_ui_Y T G s k x (by decide), fun T G s k x => z_ui_Y T G s k x (by decide), fun T G s k x => z_ui_Y T G s k x (by decide), fun T G s k x => z_ui_Y T G s k x (by decide), fun T G s k x => z_ui_Y T G s k x (by decide), fun T G s k x => z_ui_Y T G s k x (by decide), fun T G s k x => z_ui_Y T G s k x (by decide), fun T G s k x => z_ui_Y T G s k x (by decide), fun T G s k x => z_ui_Y T G s k x (by decide), fun T G s k x => z_ui_Y T G s k x (by decide), fun T G s k x => z_ui_Y T G s k x (by decide), fun T G s k x => z_ui_Y T G s k x (by decide), fun T G s k x => z_ui_Y T G s k x (by decide), fun T G s k x => z_ui_Y T G s k x (by decide), fun T G s k x => z_ui_Y T G s k x (by decide), fun T G s k x => z_ui_Y T G s k x (by decide), fun T G s k x => z_ui_Y T G s k x (by decide), fun T G s k x => z_ui_Y T G s k x (by decide), fun T G s k x => z_ui_Y T G s k x (by decide), fun T G s k x => z_ui_Y T G s k x (by decide), fun T G s k x => z_ui_Y T G s k x (by decide)⟩
theorem z_tu2 : (∀ T G s k x, z_ui (z_Y T G s) 94 k (iI x) = z_Y T (z_up G 94 (z_ro (G 94) k x)) s) ∧
  (∀ T G s k x, z_ui (z_Y T G s) 95 k (iI x) = z_Y T (z_up G 95 (z_ro (G 95) k x)) s) ∧
  (∀ T G s k x, z_ui (z_Y T G s) 96 k (iI x) = z_Y T (z_up G 96 (z_ro (G 96) k x)) s) ∧
  (∀ T G s k x, z_ui (z_Y T G s) 97 k (iI x) = z_Y T (z_up G 97 (z_ro (G 97) k x)) s) := ⟨fun T G s k x => z_ui_Y T G s k x (by decide), fun T G s k x => z_ui_Y T G s k x (by decide), fun T G s k x => z_ui_Y T G s k x (by decide), fun T G s k x => z_ui_Y T G s k x (by decide)⟩