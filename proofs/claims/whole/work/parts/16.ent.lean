-- PART 16 (by wip/whole/gen_ent.py): entries
theorem x0 (v0 : Nat) (H : pi_H) : ex 0 [.ref v0] H = ev 0 0 [some (.ref v0)] [] H := rfl
theorem x1 (v0 : Nat) (H : pi_H) : ex 1 [.ref v0] H = ev 1 0 [some (.ref v0)] [] H := rfl
theorem x2 (v0 : Nat) (H : pi_H) : ex 2 [.ref v0] H = ev 2 0 [some (.ref v0), none] [] H := rfl
theorem x3 (v0 : Nat) (H : pi_H) : ex 3 [.ref v0] H = ev 3 0 [some (.ref v0)] [] H := rfl
theorem x4 (v0 : Nat) (H : pi_H) : ex 4 [.ref v0] H = ev 4 0 [some (.ref v0)] [] H := rfl
theorem x5 (v0 : Nat) (v1 : Int32) (v2 : Int32) (H : pi_H) : ex 5 [.ref v0, .int v1, .int v2] H = ev 5 0 [some (.ref v0), some (.int v1), some (.int v2)] [] H := rfl
theorem x6 (v0 : Nat) (v1 : Nat) (H : pi_H) : ex 6 [.ref v0, .ref v1] H = ev 6 0 [some (.ref v0), some (.ref v1)] [] H := rfl
theorem x7 (v0 : Nat) (v1 : Int32) (v2 : Int32) (H : pi_H) : ex 7 [.ref v0, .int v1, .int v2] H = ev 7 0 [some (.ref v0), some (.int v1), some (.int v2), none] [] H := rfl
theorem x8 (v0 : Int32) (v1 : Int32) (v2 : Int32) (H : pi_H) : ex 8 [.int v0, .int v1, .int v2] H = ev 8 0 [some (.int v0), some (.int v1), some (.int v2)] [] H := rfl
theorem x9 (v0 : Nat) (H : pi_H) : ex 9 [.ref v0] H = ev 9 0 [some (.ref v0), none, none, none, none, none] [] H := rfl
theorem x10 (v0 : Nat) (v1 : Int32) (H : pi_H) : ex 10 [.ref v0, .int v1] H = ev 10 0 [some (.ref v0), some (.int v1)] [] H := rfl
theorem x11 (v0 : Nat) (v1 : Nat) (H : pi_H) : ex 11 [.ref v0, .ref v1] H = ev 11 0 [some (.ref v0), some (.ref v1)] [] H := rfl
theorem x12 (v0 : Int32) (v1 : Int32) (H : pi_H) : ex 12 [.int v0, .int v1] H = ev 12 0 [some (.int v0), some (.int v1)] [] H := rfl
theorem x13 (v0 : Nat) (v1 : Int32) (v2 : Int32) (H : pi_H) : ex 13 [.ref v0, .int v1, .int v2] H = ev 13 0 [some (.ref v0), some (.int v1), some (.int v2)] [] H := rfl
theorem x14 (v0 : Nat) (v1 : Int32) (v2 : Int32) (H : pi_H) : ex 14 [.ref v0, .int v1, .int v2] H = ev 14 0 [some (.ref v0), some (.int v1), some (.int v2), none] [] H := rfl
theorem x15 (v0 : Nat) (v1 : Int32) (v2 : Int32) (v3 : Int32) (H : pi_H) : ex 15 [.ref v0, .int v1, .int v2, .int v3] H = ev 15 0 [some (.ref v0), some (.int v1), some (.int v2), some (.int v3)] [] H := rfl
theorem x16 (v0 : Nat) (v1 : Int32) (v2 : Int32) (v3 : Int32) (H : pi_H) : ex 16 [.ref v0, .int v1, .int v2, .int v3] H = ev 16 0 [some (.ref v0), some (.int v1), some (.int v2), some (.int v3), none] [] H := rfl
theorem x17 (v0 : Nat) (v1 : Int32) (v2 : Int32) (H : pi_H) : ex 17 [.ref v0, .int v1, .int v2] H = ev 17 0 [some (.ref v0), some (.int v1), some (.int v2)] [] H := rfl
theorem x18 (v0 : Nat) (v1 : Int32) (v2 : Int32) (H : pi_H) : ex 18 [.ref v0, .int v1, .int v2] H = ev 18 0 [some (.ref v0), some (.int v1), some (.int v2)] [] H := rfl
theorem x19 (v0 : Nat) (v1 : Int32) (v2 : Int32) (H : pi_H) : ex 19 [.ref v0, .int v1, .int v2] H = ev 19 0 [some (.ref v0), some (.int v1), some (.int v2)] [] H := rfl
theorem x20 (v0 : Nat) (v1 : Int32) (v2 : Int32) (H : pi_H) : ex 20 [.ref v0, .int v1, .int v2] H = ev 20 0 [some (.ref v0), some (.int v1), some (.int v2), none] [] H := rfl
theorem x21 (v0 : Nat) (v1 : Int32) (H : pi_H) : ex 21 [.ref v0, .int v1] H = ev 21 0 [some (.ref v0), some (.int v1)] [] H := rfl
theorem x22 (v0 : Nat) (v1 : Int32) (H : pi_H) : ex 22 [.ref v0, .int v1] H = ev 22 0 [some (.ref v0), some (.int v1), none] [] H := rfl
theorem x23 (v0 : Nat) (v1 : Int32) (v2 : Int32) (H : pi_H) : ex 23 [.ref v0, .int v1, .int v2] H = ev 23 0 [some (.ref v0), some (.int v1), some (.int v2)] [] H := rfl
theorem x24 (v0 : Nat) (H : pi_H) : ex 24 [.ref v0] H = ev 24 0 [some (.ref v0)] [] H := rfl
theorem x25 (v0 : Nat) (H : pi_H) : ex 25 [.ref v0] H = ev 25 0 [some (.ref v0)] [] H := rfl
theorem x26 (v0 : Nat) (v1 : Int32) (H : pi_H) : ex 26 [.ref v0, .int v1] H = ev 26 0 [some (.ref v0), some (.int v1)] [] H := rfl
theorem x27 (v0 : Nat) (v1 : Int32) (H : pi_H) : ex 27 [.ref v0, .int v1] H = ev 27 0 [some (.ref v0), some (.int v1)] [] H := rfl
theorem x28 (v0 : Int32) (v1 : Int32) (v2 : Int32) (H : pi_H) : ex 28 [.int v0, .int v1, .int v2] H = ev 28 0 [some (.int v0), some (.int v1), some (.int v2)] [] H := rfl
theorem x29 (v0 : Nat) (v1 : Int32) (H : pi_H) : ex 29 [.ref v0, .int v1] H = ev 29 0 [some (.ref v0), some (.int v1)] [] H := rfl
theorem x30 (v0 : Nat) (v1 : Int32) (H : pi_H) : ex 30 [.ref v0, .int v1] H = ev 30 0 [some (.ref v0), some (.int v1), none] [] H := rfl
theorem x31 (v0 : Nat) (v1 : Int32) (v2 : Int32) (H : pi_H) : ex 31 [.ref v0, .int v1, .int v2] H = ev 31 0 [some (.ref v0), some (.int v1), some (.int v2), none] [] H := rfl
theorem x32 (v0 : Nat) (v1 : Int32) (v2 : Int32) (H : pi_H) : ex 32 [.ref v0, .int v1, .int v2] H = ev 32 0 [some (.ref v0), some (.int v1), some (.int v2), none, none] [] H := rfl
theorem x33 (v0 : Int32) (v1 : Int32) (H : pi_H) : ex 33 [.int v0, .int v1] H = ev 33 0 [some (.int v0), some (.int v1)] [] H := rfl
theorem x34 (v0 : Nat) (v1 : Int32) (H : pi_H) : ex 34 [.ref v0, .int v1] H = ev 34 0 [some (.ref v0), some (.int v1)] [] H := rfl
theorem x35 (v0 : Nat) (v1 : Int32) (v2 : Int32) (H : pi_H) : ex 35 [.ref v0, .int v1, .int v2] H = ev 35 0 [some (.ref v0), some (.int v1), some (.int v2)] [] H := rfl
theorem x36 (v0 : Nat) (v1 : Int32) (v2 : Int32) (H : pi_H) : ex 36 [.ref v0, .int v1, .int v2] H = ev 36 0 [some (.ref v0), some (.int v1), some (.int v2)] [] H := rfl
theorem x37 (v0 : Nat) (v1 : Int32) (H : pi_H) : ex 37 [.ref v0, .int v1] H = ev 37 0 [some (.ref v0), some (.int v1)] [] H := rfl
theorem x38 (v0 : Nat) (H : pi_H) : ex 38 [.ref v0] H = ev 38 0 [some (.ref v0)] [] H := rfl
theorem x39 (v0 : Nat) (H : pi_H) : ex 39 [.ref v0] H = ev 39 0 [some (.ref v0)] [] H := rfl
theorem x40 (v0 : Nat) (v1 : Int32) (H : pi_H) : ex 40 [.ref v0, .int v1] H = ev 40 0 [some (.ref v0), some (.int v1)] [] H := rfl
theorem x41 (v0 : Nat) (v1 : Int32) (v2 : Int32) (v3 : Int32) (H : pi_H) : ex 41 [.ref v0, .int v1, .int v2, .int v3] H = ev 41 0 [some (.ref v0), some (.int v1), some (.int v2), some (.int v3)] [] H := rfl
theorem x42 (v0 : Nat) (v1 : Nat) (v2 : Int32) (H : pi_H) : ex 42 [.ref v0, .ref v1, .int v2] H = ev 42 0 [some (.ref v0), some (.ref v1), some (.int v2), none] [] H := rfl
theorem x43 (v0 : Nat) (v1 : Nat) (H : pi_H) : ex 43 [.ref v0, .ref v1] H = ev 43 0 [some (.ref v0), some (.ref v1), none, none] [] H := rfl
theorem x44 (v0 : Nat) (v1 : Int32) (H : pi_H) : ex 44 [.ref v0, .int v1] H = ev 44 0 [some (.ref v0), some (.int v1), none, none, none] [] H := rfl
theorem x45 (v0 : Nat) (v1 : Nat) (H : pi_H) : ex 45 [.ref v0, .ref v1] H = ev 45 0 [some (.ref v0), some (.ref v1), none] [] H := rfl
theorem x46 (v0 : Nat) (v1 : Nat) (v2 : Int32) (H : pi_H) : ex 46 [.ref v0, .ref v1, .int v2] H = ev 46 0 [some (.ref v0), some (.ref v1), some (.int v2), none] [] H := rfl
theorem x47 (v0 : Nat) (v1 : Int32) (H : pi_H) : ex 47 [.ref v0, .int v1] H = ev 47 0 [some (.ref v0), some (.int v1)] [] H := rfl
theorem x48 (v0 : Nat) (v1 : Nat) (v2 : Int32) (v3 : Int32) (v4 : Nat) (H : pi_H) : ex 48 [.ref v0, .ref v1, .int v2, .int v3, .ref v4] H = ev 48 0 [some (.ref v0), some (.ref v1), some (.int v2), some (.int v3), some (.ref v4)] [] H := rfl
theorem x49 (v0 : Nat) (v1 : Int32) (v2 : Nat) (H : pi_H) : ex 49 [.ref v0, .int v1, .ref v2] H = ev 49 0 [some (.ref v0), some (.int v1), some (.ref v2), none, none, none, none] [] H := rfl
theorem x50 (v0 : Nat) (v1 : Nat) (v2 : Int32) (H : pi_H) : ex 50 [.ref v0, .ref v1, .int v2] H = ev 50 0 [some (.ref v0), some (.ref v1), some (.int v2), none, none, none, none, none, none, none, none] [] H := rfl
theorem x51 (v0 : Nat) (H : pi_H) : ex 51 [.ref v0] H = ev 51 0 [some (.ref v0)] [] H := rfl
theorem x52 (v0 : Nat) (v1 : Int32) (v2 : Int32) (H : pi_H) : ex 52 [.ref v0, .int v1, .int v2] H = ev 52 0 [some (.ref v0), some (.int v1), some (.int v2)] [] H := rfl
theorem x53 (v0 : Nat) (v1 : Int32) (H : pi_H) : ex 53 [.ref v0, .int v1] H = ev 53 0 [some (.ref v0), some (.int v1)] [] H := rfl
theorem x54 (v0 : Int64) (v2 : Int64) (v4 : Int32) (H : pi_H) : ex 54 [.long v0, .long v2, .int v4] H = ev 54 0 [some (.long v0), none, some (.long v2), none, some (.int v4), none, none] [] H := rfl
theorem x55 (v0 : Int64) (v2 : Int64) (H : pi_H) : ex 55 [.long v0, .long v2] H = ev 55 0 [some (.long v0), none, some (.long v2), none, none, none, none, none, none, none, none] [] H := rfl
theorem x56 (v0 : Int64) (H : pi_H) : ex 56 [.long v0] H = ev 56 0 [some (.long v0), none] [] H := rfl
theorem x57 (v0 : Nat) (v1 : Int32) (v2 : Int32) (H : pi_H) : ex 57 [.ref v0, .int v1, .int v2] H = ev 57 0 [some (.ref v0), some (.int v1), some (.int v2)] [] H := rfl
theorem x58 (v0 : Nat) (v1 : Int32) (v2 : Int32) (H : pi_H) : ex 58 [.ref v0, .int v1, .int v2] H = ev 58 0 [some (.ref v0), some (.int v1), some (.int v2)] [] H := rfl
theorem x59 (v0 : Nat) (v1 : Int32) (v2 : Int32) (v3 : Int32) (H : pi_H) : ex 59 [.ref v0, .int v1, .int v2, .int v3] H = ev 59 0 [some (.ref v0), some (.int v1), some (.int v2), some (.int v3)] [] H := rfl
theorem x60 (v0 : Nat) (v1 : Nat) (v2 : Int32) (H : pi_H) : ex 60 [.ref v0, .ref v1, .int v2] H = ev 60 0 [some (.ref v0), some (.ref v1), some (.int v2), none] [] H := rfl
theorem x61 (v0 : Nat) (v1 : Nat) (v2 : Int32) (v3 : Int32) (v4 : Int32) (v5 : Int32) (v6 : Int32) (H : pi_H) : ex 61 [.ref v0, .ref v1, .int v2, .int v3, .int v4, .int v5, .int v6] H = ev 61 0 [some (.ref v0), some (.ref v1), some (.int v2), some (.int v3), some (.int v4), some (.int v5), some (.int v6), none, none, none, none, none] [] H := rfl
theorem x62 (v0 : Nat) (v1 : Int32) (v2 : Int32) (H : pi_H) : ex 62 [.ref v0, .int v1, .int v2] H = ev 62 0 [some (.ref v0), some (.int v1), some (.int v2)] [] H := rfl
theorem x63 (v0 : Nat) (v1 : Int32) (v2 : Int32) (v3 : Int32) (H : pi_H) : ex 63 [.ref v0, .int v1, .int v2, .int v3] H = ev 63 0 [some (.ref v0), some (.int v1), some (.int v2), some (.int v3), none, none] [] H := rfl
theorem x64 (v0 : Nat) (v1 : Int32) (v2 : Int32) (v3 : Int32) (H : pi_H) : ex 64 [.ref v0, .int v1, .int v2, .int v3] H = ev 64 0 [some (.ref v0), some (.int v1), some (.int v2), some (.int v3)] [] H := rfl
theorem x65 (v0 : Nat) (v1 : Int32) (v2 : Int32) (H : pi_H) : ex 65 [.ref v0, .int v1, .int v2] H = ev 65 0 [some (.ref v0), some (.int v1), some (.int v2)] [] H := rfl
theorem x66 (v0 : Nat) (v1 : Int32) (v2 : Int32) (H : pi_H) : ex 66 [.ref v0, .int v1, .int v2] H = ev 66 0 [some (.ref v0), some (.int v1), some (.int v2)] [] H := rfl
theorem x67 (v0 : Nat) (v1 : Int32) (H : pi_H) : ex 67 [.ref v0, .int v1] H = ev 67 0 [some (.ref v0), some (.int v1), none, none, none] [] H := rfl
theorem x68 (v0 : Nat) (v1 : Int32) (H : pi_H) : ex 68 [.ref v0, .int v1] H = ev 68 0 [some (.ref v0), some (.int v1), none] [] H := rfl
theorem x69 (v0 : Nat) (v1 : Int32) (v2 : Int32) (H : pi_H) : ex 69 [.ref v0, .int v1, .int v2] H = ev 69 0 [some (.ref v0), some (.int v1), some (.int v2)] [] H := rfl
theorem x70 (v0 : Nat) (v1 : Int32) (H : pi_H) : ex 70 [.ref v0, .int v1] H = ev 70 0 [some (.ref v0), some (.int v1), none, none] [] H := rfl
theorem x71 (v0 : Nat) (v1 : Int32) (v2 : Int32) (H : pi_H) : ex 71 [.ref v0, .int v1, .int v2] H = ev 71 0 [some (.ref v0), some (.int v1), some (.int v2), none] [] H := rfl
theorem x72 (v0 : Nat) (v1 : Int32) (H : pi_H) : ex 72 [.ref v0, .int v1] H = ev 72 0 [some (.ref v0), some (.int v1), none] [] H := rfl
theorem x73 (v0 : Nat) (v1 : Int32) (H : pi_H) : ex 73 [.ref v0, .int v1] H = ev 73 0 [some (.ref v0), some (.int v1), none, none] [] H := rfl
theorem x74 (v0 : Nat) (v1 : Int32) (v2 : Int32) (H : pi_H) : ex 74 [.ref v0, .int v1, .int v2] H = ev 74 0 [some (.ref v0), some (.int v1), some (.int v2)] [] H := rfl
theorem x75 (v0 : Nat) (v1 : Int32) (H : pi_H) : ex 75 [.ref v0, .int v1] H = ev 75 0 [some (.ref v0), some (.int v1), none] [] H := rfl
theorem x76 (v0 : Nat) (v1 : Int32) (H : pi_H) : ex 76 [.ref v0, .int v1] H = ev 76 0 [some (.ref v0), some (.int v1), none, none] [] H := rfl
theorem x77 (v0 : Nat) (v1 : Int32) (v2 : Int32) (H : pi_H) : ex 77 [.ref v0, .int v1, .int v2] H = ev 77 0 [some (.ref v0), some (.int v1), some (.int v2), none] [] H := rfl
theorem x78 (v0 : Nat) (v1 : Int32) (v2 : Int32) (v3 : Int32) (H : pi_H) : ex 78 [.ref v0, .int v1, .int v2, .int v3] H = ev 78 0 [some (.ref v0), some (.int v1), some (.int v2), some (.int v3)] [] H := rfl
theorem x79 (v0 : Nat) (v1 : Nat) (v2 : Int32) (v3 : Int32) (H : pi_H) : ex 79 [.ref v0, .ref v1, .int v2, .int v3] H = ev 79 0 [some (.ref v0), some (.ref v1), some (.int v2), some (.int v3), none, none, none, none] [] H := rfl
theorem x80 (v0 : Nat) (v1 : Int32) (v2 : Int32) (v3 : Int64) (H : pi_H) : ex 80 [.ref v0, .int v1, .int v2, .long v3] H = ev 80 0 [some (.ref v0), some (.int v1), some (.int v2), some (.long v3), none] [] H := rfl
theorem x81 (v0 : Nat) (H : pi_H) : ex 81 [.ref v0] H = ev 81 0 [some (.ref v0)] [] H := rfl
theorem x82 (v0 : Nat) (H : pi_H) : ex 82 [.ref v0] H = ev 82 0 [some (.ref v0)] [] H := rfl
theorem x83 (v0 : Nat) (H : pi_H) : ex 83 [.ref v0] H = ev 83 0 [some (.ref v0)] [] H := rfl
theorem x84 (v0 : Nat) (H : pi_H) : ex 84 [.ref v0] H = ev 84 0 [some (.ref v0)] [] H := rfl
theorem x85 (v0 : Nat) (v1 : Nat) (H : pi_H) : ex 85 [.ref v0, .ref v1] H = ev 85 0 [some (.ref v0), some (.ref v1)] [] H := rfl
theorem x86 (v0 : Nat) (v1 : Int32) (H : pi_H) : ex 86 [.ref v0, .int v1] H = ev 86 0 [some (.ref v0), some (.int v1)] [] H := rfl
theorem x87 (v0 : Nat) (v1 : Int32) (H : pi_H) : ex 87 [.ref v0, .int v1] H = ev 87 0 [some (.ref v0), some (.int v1)] [] H := rfl
theorem x88 (v0 : Nat) (H : pi_H) : ex 88 [.ref v0] H = ev 88 0 [some (.ref v0)] [] H := rfl
theorem x89 (v0 : Nat) (H : pi_H) : ex 89 [.ref v0] H = ev 89 0 [some (.ref v0), none] [] H := rfl
theorem x90 (v0 : Nat) (v1 : Int32) (H : pi_H) : ex 90 [.ref v0, .int v1] H = ev 90 0 [some (.ref v0), some (.int v1)] [] H := rfl
theorem x91 (v0 : Nat) (v1 : Nat) (H : pi_H) : ex 91 [.ref v0, .ref v1] H = ev 91 0 [some (.ref v0), some (.ref v1), none] [] H := rfl
theorem x92 (v0 : Nat) (v1 : Nat) (H : pi_H) : ex 92 [.ref v0, .ref v1] H = ev 92 0 [some (.ref v0), some (.ref v1), none, none] [] H := rfl
theorem x93 (v0 : Nat) (H : pi_H) : ex 93 [.ref v0] H = ev 93 0 [some (.ref v0), none] [] H := rfl
theorem x94 (v0 : Int32) (H : pi_H) : ex 94 [.int v0] H = ev 94 0 [some (.int v0)] [] H := rfl
theorem x95 (v0 : Nat) (v1 : Nat) (H : pi_H) : ex 95 [.ref v0, .ref v1] H = ev 95 0 [some (.ref v0), some (.ref v1), none] [] H := rfl
theorem x96 (v0 : Nat) (H : pi_H) : ex 96 [.ref v0] H = ev 96 0 [some (.ref v0)] [] H := rfl
theorem x97 (v0 : Nat) (H : pi_H) : ex 97 [.ref v0] H = ev 97 0 [some (.ref v0)] [] H := rfl
theorem x98 (v0 : Nat) (v1 : Int32) (H : pi_H) : ex 98 [.ref v0, .int v1] H = ev 98 0 [some (.ref v0), some (.int v1)] [] H := rfl
theorem x99 (v0 : Nat) (H : pi_H) : ex 99 [.ref v0] H = ev 99 0 [some (.ref v0)] [] H := rfl
theorem x100 (v0 : Nat) (v1 : Int32) (H : pi_H) : ex 100 [.ref v0, .int v1] H = ev 100 0 [some (.ref v0), some (.int v1)] [] H := rfl
theorem x101 (v0 : Int32) (v1 : Int32) (H : pi_H) : ex 101 [.int v0, .int v1] H = ev 101 0 [some (.int v0), some (.int v1)] [] H := rfl
theorem x102 (v0 : Int32) (v1 : Int32) (v2 : Nat) (H : pi_H) : ex 102 [.int v0, .int v1, .ref v2] H = ev 102 0 [some (.int v0), some (.int v1), some (.ref v2)] [] H := rfl
theorem x103 (v0 : Int32) (H : pi_H) : ex 103 [.int v0] H = ev 103 0 [some (.int v0)] [] H := rfl
theorem x104 (v0 : Nat) (v1 : Int32) (H : pi_H) : ex 104 [.ref v0, .int v1] H = ev 104 0 [some (.ref v0), some (.int v1), none, none] [] H := rfl
theorem x105 (v0 : Nat) (v1 : Int32) (H : pi_H) : ex 105 [.ref v0, .int v1] H = ev 105 0 [some (.ref v0), some (.int v1)] [] H := rfl
theorem x106 (v0 : Nat) (H : pi_H) : ex 106 [.ref v0] H = ev 106 0 [some (.ref v0), none, none, none] [] H := rfl
theorem x107 (v0 : Nat) (v1 : Nat) (v2 : Int32) (H : pi_H) : ex 107 [.ref v0, .ref v1, .int v2] H = ev 107 0 [some (.ref v0), some (.ref v1), some (.int v2)] [] H := rfl
theorem x108 (v0 : Nat) (H : pi_H) : ex 108 [.ref v0] H = ev 108 0 [some (.ref v0)] [] H := rfl
theorem x109 (v0 : Nat) (H : pi_H) : ex 109 [.ref v0] H = ev 109 0 [some (.ref v0)] [] H := rfl
theorem x110 (v0 : Nat) (H : pi_H) : ex 110 [.ref v0] H = ev 110 0 [some (.ref v0)] [] H := rfl
theorem x111 (v0 : Nat) (H : pi_H) : ex 111 [.ref v0] H = ev 111 0 [some (.ref v0)] [] H := rfl
theorem x112 (v0 : Nat) (H : pi_H) : ex 112 [.ref v0] H = ev 112 0 [some (.ref v0)] [] H := rfl
theorem x113 (v0 : Nat) (H : pi_H) : ex 113 [.ref v0] H = ev 113 0 [some (.ref v0)] [] H := rfl
theorem x114 (v0 : Nat) (v1 : Int32) (v2 : Int32) (H : pi_H) : ex 114 [.ref v0, .int v1, .int v2] H = ev 114 0 [some (.ref v0), some (.int v1), some (.int v2)] [] H := rfl
theorem x115 (v0 : Nat) (H : pi_H) : ex 115 [.ref v0] H = ev 115 0 [some (.ref v0), none] [] H := rfl
theorem x116 (v0 : Nat) (v1 : Int32) (v2 : Int32) (H : pi_H) : ex 116 [.ref v0, .int v1, .int v2] H = ev 116 0 [some (.ref v0), some (.int v1), some (.int v2), none] [] H := rfl
theorem x117 (v0 : Int32) (v1 : Int32) (v2 : Int32) (H : pi_H) : ex 117 [.int v0, .int v1, .int v2] H = ev 117 0 [some (.int v0), some (.int v1), some (.int v2)] [] H := rfl
theorem x118 (v0 : Nat) (H : pi_H) : ex 118 [.ref v0] H = ev 118 0 [some (.ref v0), none, none] [] H := rfl
theorem x119 (v0 : Nat) (v1 : Int32) (H : pi_H) : ex 119 [.ref v0, .int v1] H = ev 119 0 [some (.ref v0), some (.int v1), none] [] H := rfl
theorem x120 (v0 : Nat) (v1 : Int32) (v2 : Int32) (H : pi_H) : ex 120 [.ref v0, .int v1, .int v2] H = ev 120 0 [some (.ref v0), some (.int v1), some (.int v2)] [] H := rfl
theorem x121 (v0 : Nat) (v1 : Int32) (v2 : Int32) (H : pi_H) : ex 121 [.ref v0, .int v1, .int v2] H = ev 121 0 [some (.ref v0), some (.int v1), some (.int v2), none] [] H := rfl
theorem x122 (v0 : Int32) (H : pi_H) : ex 122 [.int v0] H = ev 122 0 [some (.int v0)] [] H := rfl
theorem x123 (v0 : Nat) (v1 : Int32) (v2 : Int32) (v3 : Int32) (H : pi_H) : ex 123 [.ref v0, .int v1, .int v2, .int v3] H = ev 123 0 [some (.ref v0), some (.int v1), some (.int v2), some (.int v3)] [] H := rfl
theorem x124 (v0 : Nat) (v1 : Int32) (v2 : Int32) (v3 : Int32) (H : pi_H) : ex 124 [.ref v0, .int v1, .int v2, .int v3] H = ev 124 0 [some (.ref v0), some (.int v1), some (.int v2), some (.int v3), none] [] H := rfl
theorem x125 (v0 : Nat) (v1 : Int32) (v2 : Int32) (H : pi_H) : ex 125 [.ref v0, .int v1, .int v2] H = ev 125 0 [some (.ref v0), some (.int v1), some (.int v2)] [] H := rfl
theorem x126 (v0 : Nat) (v1 : Int32) (v2 : Int32) (H : pi_H) : ex 126 [.ref v0, .int v1, .int v2] H = ev 126 0 [some (.ref v0), some (.int v1), some (.int v2), none] [] H := rfl
theorem x127 (v0 : Nat) (v1 : Int32) (H : pi_H) : ex 127 [.ref v0, .int v1] H = ev 127 0 [some (.ref v0), some (.int v1)] [] H := rfl
theorem x128 (v0 : Nat) (v1 : Int32) (H : pi_H) : ex 128 [.ref v0, .int v1] H = ev 128 0 [some (.ref v0), some (.int v1), none, none] [] H := rfl
theorem x129 (v0 : Nat) (H : pi_H) : ex 129 [.ref v0] H = ev 129 0 [some (.ref v0)] [] H := rfl
theorem x130 (v0 : Nat) (H : pi_H) : ex 130 [.ref v0] H = ev 130 0 [some (.ref v0), none] [] H := rfl
theorem x131 (v0 : Nat) (v1 : Int32) (H : pi_H) : ex 131 [.ref v0, .int v1] H = ev 131 0 [some (.ref v0), some (.int v1)] [] H := rfl
theorem x132 (v0 : Nat) (v1 : Int32) (H : pi_H) : ex 132 [.ref v0, .int v1] H = ev 132 0 [some (.ref v0), some (.int v1), none, none] [] H := rfl
theorem x133 (v0 : Nat) (v1 : Int32) (v2 : Int32) (H : pi_H) : ex 133 [.ref v0, .int v1, .int v2] H = ev 133 0 [some (.ref v0), some (.int v1), some (.int v2), none, none] [] H := rfl
theorem x134 (v0 : Nat) (v1 : Int32) (v2 : Int32) (H : pi_H) : ex 134 [.ref v0, .int v1, .int v2] H = ev 134 0 [some (.ref v0), some (.int v1), some (.int v2)] [] H := rfl
theorem x135 (v0 : Nat) (v1 : Int32) (H : pi_H) : ex 135 [.ref v0, .int v1] H = ev 135 0 [some (.ref v0), some (.int v1)] [] H := rfl
theorem x136 (v0 : Nat) (v1 : Int32) (v2 : Int32) (v3 : Int32) (H : pi_H) : ex 136 [.ref v0, .int v1, .int v2, .int v3] H = ev 136 0 [some (.ref v0), some (.int v1), some (.int v2), some (.int v3)] [] H := rfl
theorem x137 (v0 : Int32) (v1 : Int32) (v2 : Int32) (v3 : Int32) (H : pi_H) : ex 137 [.int v0, .int v1, .int v2, .int v3] H = ev 137 0 [some (.int v0), some (.int v1), some (.int v2), some (.int v3)] [] H := rfl
theorem x138 (v0 : Nat) (v1 : Int32) (H : pi_H) : ex 138 [.ref v0, .int v1] H = ev 138 0 [some (.ref v0), some (.int v1), none, none, none, none, none, none, none, none] [] H := rfl
theorem x139 (v0 : Nat) (H : pi_H) : ex 139 [.ref v0] H = ev 139 0 [some (.ref v0), none] [] H := rfl
theorem x140 (v0 : Nat) (v1 : Nat) (v2 : Int32) (v3 : Int32) (H : pi_H) : ex 140 [.ref v0, .ref v1, .int v2, .int v3] H = ev 140 0 [some (.ref v0), some (.ref v1), some (.int v2), some (.int v3), none, none, none, none, none, none, none] [] H := rfl
theorem x141 (v0 : Int64) (v2 : Int64) (v4 : Int32) (H : pi_H) : ex 141 [.long v0, .long v2, .int v4] H = ev 141 0 [some (.long v0), none, some (.long v2), none, some (.int v4), none, none, none, none, none, none] [] H := rfl
theorem x142 (v0 : Nat) (v1 : Int32) (v2 : Int32) (H : pi_H) : ex 142 [.ref v0, .int v1, .int v2] H = ev 142 0 [some (.ref v0), some (.int v1), some (.int v2)] [] H := rfl
theorem x143 (v0 : Nat) (v1 : Int32) (v2 : Int32) (v3 : Int32) (H : pi_H) : ex 143 [.ref v0, .int v1, .int v2, .int v3] H = ev 143 0 [some (.ref v0), some (.int v1), some (.int v2), some (.int v3)] [] H := rfl
theorem x144 (v0 : Nat) (v1 : Int32) (H : pi_H) : ex 144 [.ref v0, .int v1] H = ev 144 0 [some (.ref v0), some (.int v1), none, none] [] H := rfl
theorem x145 (v0 : Nat) (v1 : Int32) (v2 : Int32) (v3 : Int32) (v4 : Int32) (H : pi_H) : ex 145 [.ref v0, .int v1, .int v2, .int v3, .int v4] H = ev 145 0 [some (.ref v0), some (.int v1), some (.int v2), some (.int v3), some (.int v4), none] [] H := rfl
theorem x146 (v0 : Nat) (v1 : Int32) (v2 : Int32) (v3 : Int32) (H : pi_H) : ex 146 [.ref v0, .int v1, .int v2, .int v3] H = ev 146 0 [some (.ref v0), some (.int v1), some (.int v2), some (.int v3), none, none] [] H := rfl
theorem x147 (v0 : Nat) (v1 : Int32) (v2 : Int32) (v3 : Int32) (H : pi_H) : ex 147 [.ref v0, .int v1, .int v2, .int v3] H = ev 147 0 [some (.ref v0), some (.int v1), some (.int v2), some (.int v3)] [] H := rfl
theorem x148 (v0 : Nat) (v1 : Int32) (v2 : Int32) (H : pi_H) : ex 148 [.ref v0, .int v1, .int v2] H = ev 148 0 [some (.ref v0), some (.int v1), some (.int v2), none] [] H := rfl
theorem x149 (v0 : Nat) (v1 : Int32) (H : pi_H) : ex 149 [.ref v0, .int v1] H = ev 149 0 [some (.ref v0), some (.int v1), none, none] [] H := rfl
theorem x150 (v0 : Nat) (v1 : Int32) (H : pi_H) : ex 150 [.ref v0, .int v1] H = ev 150 0 [some (.ref v0), some (.int v1), none, none] [] H := rfl
theorem x151 (v0 : Nat) (v1 : Int32) (v2 : Int32) (H : pi_H) : ex 151 [.ref v0, .int v1, .int v2] H = ev 151 0 [some (.ref v0), some (.int v1), some (.int v2)] [] H := rfl
theorem x152 (v0 : Nat) (v1 : Int32) (H : pi_H) : ex 152 [.ref v0, .int v1] H = ev 152 0 [some (.ref v0), some (.int v1), none, none, none, none] [] H := rfl
theorem x153 (v0 : Nat) (v1 : Int32) (v2 : Int32) (v3 : Int32) (H : pi_H) : ex 153 [.ref v0, .int v1, .int v2, .int v3] H = ev 153 0 [some (.ref v0), some (.int v1), some (.int v2), some (.int v3), none, none, none, none] [] H := rfl
theorem x154 (v0 : Nat) (v1 : Int32) (v2 : Int32) (H : pi_H) : ex 154 [.ref v0, .int v1, .int v2] H = ev 154 0 [some (.ref v0), some (.int v1), some (.int v2), none] [] H := rfl
theorem x155 (v0 : Nat) (v1 : Int32) (v2 : Int32) (v3 : Int32) (H : pi_H) : ex 155 [.ref v0, .int v1, .int v2, .int v3] H = ev 155 0 [some (.ref v0), some (.int v1), some (.int v2), some (.int v3), none, none, none, none, none, none, none, none] [] H := rfl
theorem x156 (v0 : Nat) (v1 : Int32) (v2 : Int32) (v3 : Int32) (v4 : Int32) (H : pi_H) : ex 156 [.ref v0, .int v1, .int v2, .int v3, .int v4] H = ev 156 0 [some (.ref v0), some (.int v1), some (.int v2), some (.int v3), some (.int v4), none, none] [] H := rfl
theorem x157 (v0 : Nat) (H : pi_H) : ex 157 [.ref v0] H = ev 157 0 [some (.ref v0), none] [] H := rfl
theorem x158 (v0 : Nat) (v1 : Int32) (H : pi_H) : ex 158 [.ref v0, .int v1] H = ev 158 0 [some (.ref v0), some (.int v1)] [] H := rfl
theorem x159 (v0 : Nat) (H : pi_H) : ex 159 [.ref v0] H = ev 159 0 [some (.ref v0), none] [] H := rfl
theorem x160 (v0 : Nat) (v1 : Int32) (H : pi_H) : ex 160 [.ref v0, .int v1] H = ev 160 0 [some (.ref v0), some (.int v1), none] [] H := rfl
theorem x161 (v0 : Nat) (H : pi_H) : ex 161 [.ref v0] H = ev 161 0 [some (.ref v0), none, none, none] [] H := rfl
theorem x162 (v0 : Nat) (H : pi_H) : ex 162 [.ref v0] H = ev 162 0 [some (.ref v0), none, none, none] [] H := rfl
theorem x163 (v0 : Nat) (H : pi_H) : ex 163 [.ref v0] H = ev 163 0 [some (.ref v0), none, none, none, none] [] H := rfl
theorem x164 (v0 : Nat) (H : pi_H) : ex 164 [.ref v0] H = ev 164 0 [some (.ref v0)] [] H := rfl
theorem x165 (v0 : Int32) (H : pi_H) : ex 165 [.int v0] H = ev 165 0 [some (.int v0)] [] H := rfl
theorem x166 (v0 : Nat) (H : pi_H) : ex 166 [.ref v0] H = ev 166 0 [some (.ref v0), none, none] [] H := rfl
theorem x167 (v0 : Nat) (v1 : Int32) (H : pi_H) : ex 167 [.ref v0, .int v1] H = ev 167 0 [some (.ref v0), some (.int v1)] [] H := rfl
theorem x168 (v0 : Nat) (H : pi_H) : ex 168 [.ref v0] H = ev 168 0 [some (.ref v0), none] [] H := rfl
theorem x169 (v0 : Nat) (H : pi_H) : ex 169 [.ref v0] H = ev 169 0 [some (.ref v0), none] [] H := rfl
theorem x170 (v0 : Nat) (H : pi_H) : ex 170 [.ref v0] H = ev 170 0 [some (.ref v0), none, none, none] [] H := rfl
