/-! TABLES, by program (wip/whole/gen3.py): each method cut into blocks; branch targets are block numbers, fields 64 * class + slot, methods by number -/
def zB_0 : List (List Instr × List Nat) := [
  ([.aload 0, .getfield 197, .sipush 40, .if_icmp .lt 1, .sipush (-4), .ireturn], [0, 1, 4, 6, 9, 11, 12]),
  ([.aload 0, .getfield 192, .aload 0, .getfield 197, .iload 1, .iastore, .aload 0, .getfield 193, .aload 0, .getfield 197, .iload 2, .iastore, .aload 0, .getfield 194, .aload 0, .getfield 197, .iload 3, .iastore, .aload 0, .getfield 195, .aload 0, .getfield 197, .iload 4, .iastore, .aload 0, .getfield 196, .aload 0, .getfield 197, .sipush (-9), .iastore, .aload 0, .dup, .getfield 197, .dup_x1, .sipush 1, .iadd, .putfield 197, .ireturn], [12, 13, 16, 17, 20, 21, 22, 23, 26, 27, 30, 31, 32, 33, 36, 37, 40, 41, 42, 43, 46, 47, 50, 52, 53, 54, 57, 58, 61, 63, 64, 65, 66, 69, 70, 71, 72, 75, 76])]
def zB_1 : List (List Instr × List Nat) := [
  ([.sipush 0, .istore 5], [0, 1, 3]),
  ([.iload 5, .aload 0, .getfield 197, .if_icmp .ge 4, .aload 0, .getfield 192, .iload 5, .iaload, .iload 1, .if_icmp .eq 2, .aload 0, .getfield 193, .iload 5, .iaload, .iload 2, .if_icmp .ne 3], [3, 5, 6, 9, 12, 13, 16, 18, 19, 20, 23, 24, 27, 29, 30, 31, 34]),
  ([.aload 0, .getfield 194, .iload 5, .iaload, .iload 4, .if_icmp .gt 3, .aload 0, .getfield 195, .iload 5, .iaload, .iload 3, .if_icmp .lt 3, .sipush 1, .ireturn], [34, 35, 38, 40, 41, 43, 46, 47, 50, 52, 53, 54, 57, 58, 59]),
  ([.iinc 5 1, .goto 1], [59, 62, 65]),
  ([.sipush 0, .ireturn], [65, 66, 67])]
def zB_2 : List (List Instr × List Nat) := [
  ([.aload 0, .getfield 320, .sipush (-1), .invokestatic 60, .aload 0, .getfield 321, .sipush (-1), .invokestatic 60, .sipush 0, .istore 3], [0, 1, 4, 5, 8, 9, 12, 13, 16, 17, 18]),
  ([.iload 3, .aload 1, .getfield 197, .if_icmp .ge 3, .aload 1, .getfield 194, .iload 3, .iaload, .iload 2, .if_icmp .gt 2, .aload 1, .getfield 195, .iload 3, .iaload, .iload 2, .if_icmp .lt 2, .aload 0, .getfield 320, .aload 1, .getfield 192, .iload 3, .iaload, .aload 1, .getfield 193, .iload 3, .iaload, .iastore, .aload 0, .getfield 321, .aload 1, .getfield 193, .iload 3, .iaload, .aload 1, .getfield 192, .iload 3, .iaload, .iastore], [18, 19, 20, 23, 26, 27, 30, 31, 32, 33, 36, 37, 40, 41, 42, 43, 46, 47, 50, 51, 54, 55, 56, 57, 60, 61, 62, 63, 64, 67, 68, 71, 72, 73, 74, 77, 78, 79, 80]),
  ([.iinc 3 1, .goto 1], [80, 83, 86]),
  ([.return_], [86, 87])]
def zB_3 : List (List Instr × List Nat) := [
  ([.sipush 0, .istore 4, .aload 0, .sipush 0, .putfield 322, .aload 0, .sipush 0, .putfield 324, .sipush 0, .istore 5], [0, 1, 3, 4, 5, 8, 9, 10, 13, 14, 16]),
  ([.iload 5, .iload 2, .if_icmp .ge 6, .aload 1, .iload 5, .iaload, .istore 6, .iload 6, .sipush (-1), .if_icmp .lt 2, .iload 6, .iload 3, .if_icmp .ge 2, .iload 6, .ifCond .lt 3, .iload 4, .iload 6, .ishr, .sipush 1, .iand, .sipush 1, .if_icmp .ne 3], [16, 18, 19, 22, 23, 25, 26, 28, 30, 31, 34, 36, 37, 40, 42, 45, 47, 49, 50, 51, 52, 53, 56]),
  ([.sipush 0, .ireturn], [56, 57, 58]),
  ([.aload 0, .getfield 320, .iload 5, .iaload, .sipush (-1), .if_icmp .eq 4, .aload 0, .getfield 320, .iload 5, .iaload, .iload 6, .if_icmp .eq 4, .aload 0, .dup, .getfield 322, .sipush 1, .iload 5, .ishl, .ior, .putfield 322], [58, 59, 62, 64, 65, 66, 69, 70, 73, 75, 76, 78, 81, 82, 83, 86, 87, 89, 90, 91, 94]),
  ([.iload 6, .ifCond .lt 5, .iload 4, .sipush 1, .iload 6, .ishl, .ior, .istore 4, .aload 0, .iload 5, .iload 6, .invokevirtual 4], [94, 96, 99, 101, 102, 104, 105, 106, 108, 109, 111, 113, 116]),
  ([.iinc 5 1, .goto 1], [116, 119, 122]),
  ([.sipush 1, .ireturn], [122, 123, 124])]
def zB_4 : List (List Instr × List Nat) := [
  ([.aload 0, .getfield 320, .iload 1, .iaload, .iload 2, .if_icmp .ne 1, .return_], [0, 1, 4, 5, 6, 7, 10, 11]),
  ([.aload 0, .getfield 320, .iload 1, .iaload, .sipush (-1), .if_icmp .ne 2, .sipush 0, .goto 3], [11, 12, 15, 16, 17, 18, 21, 22, 25]),
  ([.sipush 1, .iload 1, .ishl], [25, 26, 27, 28]),
  ([.istore 3, .aload 0, .getfield 321, .iload 2, .iaload, .sipush (-1), .if_icmp .ne 4, .sipush 0, .goto 5], [28, 29, 30, 33, 34, 35, 36, 39, 40, 43]),
  ([.sipush 1, .aload 0, .getfield 321, .iload 2, .iaload, .ishl], [43, 44, 45, 48, 49, 50, 51]),
  ([.istore 4, .aload 0, .getfield 323, .aload 0, .getfield 324, .iload 3, .iload 4, .ior, .iastore, .aload 0, .dup, .getfield 324, .sipush 1, .iadd, .putfield 324, .return_], [51, 53, 54, 57, 58, 61, 62, 64, 65, 66, 67, 68, 71, 72, 73, 76, 77])]
def zB_5 : List (List Instr × List Nat) := [
  ([.aload 0, .getfield 322, .invokestatic 59, .istore 2, .iload 2, .iload 1, .invokestatic 6, .istore 3, .sipush 0, .istore 4, .iload 3, .ifCond .le 1, .iload 3, .iload 1, .imul, .iload 2, .isub, .istore 5, .iload 5, .aload 0, .iload 3, .sipush 1, .isub, .iload 1, .imul, .invokevirtual 7, .invokestatic 997, .istore 4], [0, 1, 4, 7, 8, 9, 10, 13, 14, 15, 17, 18, 21, 22, 23, 24, 25, 26, 28, 30, 31, 32, 33, 34, 35, 36, 39, 42, 44]),
  ([.iload 3, .aload 0, .getfield 324, .iload 4, .isub, .iload 1, .invokestatic 6, .iadd, .ireturn], [44, 45, 46, 49, 51, 52, 53, 56, 57, 58])]
def zB_6 : List (List Instr × List Nat) := [
  ([.iload 1, .sipush 1, .if_icmp .ge 1, .sipush 0, .goto 2], [0, 1, 2, 5, 6, 9]),
  ([.iload 0, .iload 1, .iadd, .sipush 1, .isub, .iload 1, .idiv], [9, 10, 11, 12, 13, 14, 15, 16]),
  ([.ireturn], [16, 17])]
def zB_7 : List (List Instr × List Nat) := [
  ([.sipush 0, .istore 2, .sipush 0, .istore 3], [0, 1, 2, 3, 4]),
  ([.iload 3, .sipush 1024, .if_icmp .ge 3, .iload 3, .aload 0, .getfield 322, .sipush (-1), .ixor, .iand, .ifCond .ne 2, .iload 3, .invokestatic 59, .iload 1, .if_icmp .ne 2, .iload 2, .aload 0, .iload 3, .invokevirtual 8, .invokestatic 998, .istore 2], [4, 5, 8, 11, 12, 13, 16, 17, 18, 19, 22, 23, 26, 27, 30, 31, 32, 33, 36, 39, 40]),
  ([.iinc 3 1, .goto 1], [40, 43, 46]),
  ([.iload 2, .ireturn], [46, 47, 48])]
def zB_8 : List (List Instr × List Nat) := [
  ([.sipush 0, .istore 2, .sipush 0, .istore 3], [0, 1, 2, 3, 4]),
  ([.iload 3, .aload 0, .getfield 324, .if_icmp .ge 3, .aload 0, .getfield 323, .iload 3, .iaload, .iload 1, .sipush (-1), .ixor, .iand, .ifCond .ne 2, .iinc 2 1], [4, 5, 6, 9, 12, 13, 16, 17, 18, 19, 20, 21, 22, 25, 28]),
  ([.iinc 3 1, .goto 1], [28, 31, 34]),
  ([.iload 2, .ireturn], [34, 35, 36])]
def zB_9 : List (List Instr × List Nat) := [
  ([.aload 0, .aload 1, .iload 2, .iload 3, .aload 0, .getfield 384, .aload 0, .getfield 385, .invokevirtual 10, .return_], [0, 1, 2, 3, 4, 5, 8, 9, 12, 15, 16])]
def zB_10 : List (List Instr × List Nat) := [
  ([.aload 0, .sipush 0, .putfield 387, .aload 0, .sipush 0, .putfield 388, .iload 2, .iload 5, .iload 3, .isub, .invokestatic 997, .sipush 1, .isub, .istore 6, .sipush 0, .iload 3, .ineg, .invokestatic 998, .istore 7], [0, 1, 2, 5, 6, 7, 10, 11, 13, 14, 15, 18, 19, 20, 22, 23, 24, 25, 28, 30]),
  ([.iload 7, .iload 6, .if_icmp .ge 4, .aload 1, .iload 7, .invokestatic 11, .aload 4, .iload 3, .iload 7, .iadd, .invokestatic 11, .if_icmp .ne 2, .aload 0, .dup, .getfield 387, .sipush 1, .iadd, .putfield 387, .goto 3], [30, 32, 34, 37, 38, 40, 43, 45, 46, 48, 49, 52, 55, 56, 57, 60, 61, 62, 65, 68]),
  ([.aload 0, .dup, .getfield 388, .sipush 1, .iadd, .putfield 388], [68, 69, 70, 73, 74, 75, 78]),
  ([.iinc 7 1, .goto 1], [78, 81, 84]),
  ([.return_], [84, 85])]
def zB_11 : List (List Instr × List Nat) := [
  ([.aload 0, .iload 1, .iaload, .aload 0, .iload 1, .sipush 1, .iadd, .iaload, .if_icmp .ne 1, .sipush 0, .ireturn], [0, 1, 2, 3, 4, 5, 6, 7, 8, 11, 12, 13]),
  ([.aload 0, .iload 1, .iaload, .aload 0, .iload 1, .sipush 1, .iadd, .iaload, .if_icmp .ge 2, .sipush 1, .goto 3], [13, 14, 15, 16, 17, 18, 19, 20, 21, 24, 25, 28]),
  ([.sipush (-1)], [28, 29]),
  ([.ireturn], [29, 30])]
def zB_12 : List (List Instr × List Nat) := [
  ([.sipush 0, .istore 3, .sipush 1, .iload 2, .isub, .istore 4], [0, 1, 2, 3, 4, 5, 7]),
  ([.iload 4, .aload 0, .getfield 385, .if_icmp .ge 4, .aload 0, .aload 1, .iload 2, .iload 4, .invokevirtual 9, .aload 0, .getfield 387, .aload 0, .getfield 388, .iadd, .sipush 5, .if_icmp .lt 3, .iload 3, .ifCond .eq 2, .aload 0, .getfield 387, .aload 0, .getfield 388, .isub, .aload 0, .getfield 390, .if_icmp .le 3], [7, 9, 10, 13, 16, 17, 18, 19, 21, 24, 25, 28, 29, 32, 33, 34, 37, 38, 41, 42, 45, 46, 49, 50, 51, 54, 57]),
  ([.sipush 1, .istore 3, .aload 0, .iload 4, .putfield 389, .aload 0, .aload 0, .getfield 387, .aload 0, .getfield 388, .isub, .putfield 390], [57, 58, 59, 60, 62, 65, 66, 67, 70, 71, 74, 75, 78]),
  ([.iinc 4 1, .goto 1], [78, 81, 84]),
  ([.iload 3, .ireturn], [84, 85, 86])]
def zB_13 : List (List Instr × List Nat) := [
  ([.aload 1, .getfield 643, .iload 2, .iaload, .istore 4, .aload 1, .getfield 643, .iload 3, .iaload, .istore 5, .sipush 1, .iload 4, .isub, .istore 6], [0, 1, 4, 5, 6, 8, 9, 12, 13, 14, 16, 17, 19, 20, 22]),
  ([.iload 6, .iload 5, .if_icmp .ge 3, .aload 0, .aload 1, .getfield 644, .iload 2, .aaload, .iload 4, .iload 6, .aload 1, .getfield 644, .iload 3, .aaload, .iload 5, .invokevirtual 10, .aload 0, .getfield 388, .ifCond .ne 2, .aload 0, .getfield 387, .sipush 5, .if_icmp .lt 2, .sipush 1, .ireturn], [22, 24, 26, 29, 30, 31, 34, 35, 36, 38, 40, 41, 44, 45, 46, 48, 51, 52, 55, 58, 59, 62, 63, 66, 67, 68]),
  ([.iinc 6 1, .goto 1], [68, 71, 74]),
  ([.sipush 0, .ireturn], [74, 75, 76])]
def zB_14 : List (List Instr × List Nat) := [
  ([.iload 1, .ifCond .lt 1, .iload 1, .aload 0, .getfield 452, .if_icmp .ge 1, .sipush 1, .goto 2], [0, 1, 4, 5, 6, 9, 12, 13, 16]),
  ([.sipush 0], [16, 17]),
  ([.ireturn], [17, 18])]
def zB_15 : List (List Instr × List Nat) := [
  ([.aload 0, .getfield 452, .sipush 10, .if_icmp .lt 1, .sipush (-4), .ireturn], [0, 1, 4, 6, 9, 11, 12]),
  ([.aload 0, .getfield 448, .aload 0, .getfield 452, .iload 1, .iastore, .aload 0, .dup, .getfield 452, .dup_x1, .sipush 1, .iadd, .putfield 452, .ireturn], [12, 13, 16, 17, 20, 21, 22, 23, 24, 27, 28, 29, 30, 33, 34])]
def zB_16 : List (List Instr × List Nat) := [
  ([.aload 0, .getfield 449, .iload 1, .iaload, .aload 0, .getfield 450, .iload 1, .iaload, .ior, .ireturn], [0, 1, 4, 5, 6, 7, 10, 11, 12, 13, 14])]
def zB_17 : List (List Instr × List Nat) := [
  ([.aload 0, .getfield 451, .iload 1, .aaload, .iload 2, .iaload, .ifCond .le 1, .aload 0, .iload 1, .invokevirtual 16, .iload 3, .ishr, .sipush 1, .iand, .ifCond .ne 1, .sipush 1, .goto 2], [0, 1, 4, 5, 6, 7, 8, 11, 12, 13, 16, 17, 18, 19, 20, 23, 24, 27]),
  ([.sipush 0], [27, 28]),
  ([.ireturn], [28, 29])]
def zB_18 : List (List Instr × List Nat) := [
  ([.iload 1, .ifCond .lt 1, .iload 1, .sipush 4, .if_icmp .ge 1, .sipush 1, .goto 2], [0, 1, 4, 5, 6, 9, 10, 13]),
  ([.sipush 0], [13, 14]),
  ([.ireturn], [14, 15])]
def zB_19 : List (List Instr × List Nat) := [
  ([.aload 0, .getfield 512, .iload 1, .iload 2, .iastore, .aload 0, .getfield 513, .iload 1, .iload 3, .iastore, .aload 0, .getfield 514, .iload 1, .aaload, .sipush 0, .invokestatic 60, .return_], [0, 1, 4, 5, 6, 7, 8, 11, 12, 13, 14, 15, 18, 19, 20, 21, 24, 25])]
def zB_20 : List (List Instr × List Nat) := [
  ([.iload 0, .lookupswitch 3 #[(0, 1), (1, 2)]], [0, 1, 28]),
  ([.iload 1, .i2b, .ireturn], [28, 29, 30, 31]),
  ([.iload 1, .i2s, .ireturn], [31, 32, 33, 34]),
  ([.iload 1, .ireturn], [34, 35, 36])]
def zB_21 : List (List Instr × List Nat) := [
  ([.aload 0, .getfield 512, .iload 1, .iaload, .sipush (-1), .if_icmp .ne 1, .sipush 1, .ireturn], [0, 1, 4, 5, 6, 7, 10, 11, 12]),
  ([.iload 3, .ifCond .ge 2, .sipush 4, .ireturn], [12, 13, 16, 17, 18]),
  ([.iload 2, .ifCond .lt 3, .iload 2, .aload 0, .getfield 513, .iload 1, .iaload, .if_icmp .gt 3, .iload 3, .aload 0, .getfield 513, .iload 1, .iaload, .iload 2, .isub, .if_icmp .le 4], [18, 19, 22, 23, 24, 27, 28, 29, 32, 33, 34, 37, 38, 39, 40, 41, 44]),
  ([.sipush 3, .goto 5], [44, 45, 48]),
  ([.sipush 0], [48, 49]),
  ([.ireturn], [49, 50])]
def zB_22 : List (List Instr × List Nat) := [
  ([.aload 0, .getfield 512, .iload 1, .iaload, .sipush (-1), .if_icmp .eq 1, .aload 0, .getfield 512, .iload 1, .iaload, .iload 2, .if_icmp .eq 1, .sipush 2, .ireturn], [0, 1, 4, 5, 6, 7, 10, 11, 14, 15, 16, 17, 20, 21, 22]),
  ([.aload 0, .iload 1, .iload 3, .iload 4, .invokevirtual 21, .istore 5, .iload 5, .ifCond .ne 2, .aload 0, .getfield 514, .iload 1, .aaload, .iload 3, .aload 0, .getfield 515, .sipush 0, .iload 4, .invokestatic 999], [22, 23, 24, 25, 27, 30, 32, 34, 37, 38, 41, 42, 43, 44, 45, 48, 49, 51, 54]),
  ([.iload 5, .ireturn], [54, 56, 57])]
def zB_23 : List (List Instr × List Nat) := [
  ([.sipush 0, .istore 4], [0, 1, 3]),
  ([.iload 4, .iload 1, .if_icmp .ge 4, .iload 4, .aload 0, .getfield 515, .arraylength, .if_icmp .ge 4, .aload 0, .getfield 515, .iload 4, .iaload, .iload 2, .if_icmp .lt 2, .aload 0, .getfield 515, .iload 4, .iaload, .iload 3, .if_icmp .le 3], [3, 5, 6, 9, 11, 12, 15, 16, 19, 20, 23, 25, 26, 27, 30, 31, 34, 36, 37, 38, 41]),
  ([.sipush 0, .ireturn], [41, 42, 43]),
  ([.iinc 4 1, .goto 1], [43, 46, 49]),
  ([.sipush 1, .ireturn], [49, 50, 51])]
def zB_24 : List (List Instr × List Nat) := [
  ([.sipush 0, .istore 5, .sipush 0, .istore 6, .sipush 0, .istore 7, .sipush 0, .istore 8], [0, 1, 3, 4, 6, 7, 9, 10, 12]),
  ([.iload 8, .iload 1, .if_icmp .ge 8, .iload 8, .aload 0, .getfield 515, .arraylength, .if_icmp .ge 8, .aload 0, .getfield 515, .iload 8, .iaload, .istore 9, .iload 9, .iload 2, .if_icmp .lt 2, .iload 9, .iload 3, .if_icmp .gt 2, .sipush 0, .istore 6, .sipush 0, .istore 7, .goto 7], [12, 14, 15, 18, 20, 21, 24, 25, 28, 29, 32, 34, 35, 37, 39, 40, 43, 45, 46, 49, 50, 52, 53, 55, 58]),
  ([.iinc 6 1, .iload 7, .ifCond .ne 3, .iload 9, .sipush (-1), .if_icmp .eq 4], [58, 61, 63, 66, 68, 69, 72]),
  ([.sipush 1, .goto 5], [72, 73, 76]),
  ([.sipush 0], [76, 77]),
  ([.istore 7, .iload 7, .ifCond .ne 6, .iload 4, .ifCond .ne 7], [77, 79, 81, 84, 86, 89]),
  ([.iload 5, .iload 6, .invokestatic 998, .istore 5], [89, 91, 93, 96, 98]),
  ([.iinc 8 1, .goto 1], [98, 101, 104]),
  ([.iload 5, .ireturn], [104, 106, 107])]
def zB_25 : List (List Instr × List Nat) := [
  ([.iload 1, .ifCond .lt 1, .iload 1, .aload 0, .getfield 579, .if_icmp .ge 1, .sipush 1, .goto 2], [0, 1, 4, 5, 6, 9, 12, 13, 16]),
  ([.sipush 0], [16, 17]),
  ([.ireturn], [17, 18])]
def zB_26 : List (List Instr × List Nat) := [
  ([.aload 0, .getfield 579, .sipush 40, .if_icmp .lt 1, .sipush (-4), .ireturn], [0, 1, 4, 6, 9, 11, 12]),
  ([.aload 0, .getfield 576, .aload 0, .getfield 579, .iload 1, .iastore, .aload 0, .getfield 577, .aload 0, .getfield 579, .iload 2, .iastore, .aload 0, .getfield 578, .aload 0, .getfield 579, .iload 3, .iastore, .aload 0, .dup, .getfield 579, .dup_x1, .sipush 1, .iadd, .putfield 579, .ireturn], [12, 13, 16, 17, 20, 21, 22, 23, 26, 27, 30, 31, 32, 33, 36, 37, 40, 41, 42, 43, 44, 47, 48, 49, 50, 53, 54])]
def zB_27 : List (List Instr × List Nat) := [
  ([.sipush 0, .istore 4, .sipush 0, .istore 5], [0, 1, 3, 4, 6]),
  ([.iload 5, .aload 0, .getfield 579, .if_icmp .ge 3, .aload 0, .getfield 576, .iload 5, .iaload, .iload 1, .if_icmp .ne 2, .aload 0, .getfield 577, .iload 5, .iaload, .iload 2, .if_icmp .lt 2, .aload 0, .getfield 577, .iload 5, .iaload, .iload 3, .if_icmp .gt 2, .iinc 4 1], [6, 8, 9, 12, 15, 16, 19, 21, 22, 23, 26, 27, 30, 32, 33, 34, 37, 38, 41, 43, 44, 45, 48, 51]),
  ([.iinc 5 1, .goto 1], [51, 54, 57]),
  ([.iload 4, .ireturn], [57, 59, 60])]
def zB_28 : List (List Instr × List Nat) := [
  ([.aload 0, .sipush 0, .putfield 582, .aload 0, .sipush 0, .putfield 583, .aload 0, .getfield 584, .sipush 0, .invokestatic 60, .aload 0, .getfield 579, .sipush 1, .isub, .istore 3], [0, 1, 2, 5, 6, 7, 10, 11, 14, 15, 18, 19, 22, 23, 24, 25]),
  ([.iload 3, .ifCond .lt 4, .aload 0, .getfield 577, .iload 3, .iaload, .iload 1, .if_icmp .ne 3, .aload 2, .getfield 642, .aload 0, .getfield 576, .iload 3, .iaload, .iaload, .istore 4, .aload 0, .getfield 578, .iload 3, .iaload, .sipush (-1), .if_icmp .ne 2, .aload 0, .iload 4, .invokevirtual 29, .goto 3], [25, 26, 29, 30, 33, 34, 35, 36, 39, 40, 43, 44, 47, 48, 49, 50, 52, 53, 56, 57, 58, 59, 62, 63, 65, 68, 71]),
  ([.aload 0, .getfield 584, .aload 0, .getfield 578, .iload 3, .iaload, .dup2, .iaload, .iload 4, .iadd, .iastore], [71, 72, 75, 76, 79, 80, 81, 82, 83, 85, 86, 87]),
  ([.iinc 3 (-1), .goto 1], [87, 90, 93]),
  ([.aload 0, .invokevirtual 30, .return_], [93, 94, 97, 98])]
def zB_29 : List (List Instr × List Nat) := [
  ([.sipush 1, .aload 0, .getfield 583, .ishl, .istore 2, .sipush 2, .iload 2, .imul, .aload 0, .getfield 581, .arraylength, .if_icmp .le 1, .return_], [0, 1, 2, 5, 6, 7, 8, 9, 10, 11, 14, 15, 18, 19]),
  ([.sipush 0, .istore 3], [19, 20, 21]),
  ([.iload 3, .iload 2, .if_icmp .ge 3, .aload 0, .getfield 581, .iload 2, .iload 3, .iadd, .aload 0, .getfield 581, .iload 3, .iaload, .iload 1, .iadd, .iastore, .iinc 3 1, .goto 2], [21, 22, 23, 26, 27, 30, 31, 32, 33, 34, 37, 38, 39, 40, 41, 42, 45, 48]),
  ([.aload 0, .dup, .getfield 582, .iload 1, .iadd, .putfield 582, .aload 0, .dup, .getfield 583, .sipush 1, .iadd, .putfield 583, .return_], [48, 49, 50, 53, 54, 55, 58, 59, 60, 63, 64, 65, 68, 69])]
def zB_30 : List (List Instr × List Nat) := [
  ([.aload 0, .sipush 0, .putfield 586, .aload 0, .aload 0, .sipush 0, .invokevirtual 31, .putfield 585, .sipush 1, .istore 1], [0, 1, 2, 5, 6, 7, 8, 11, 14, 15, 16]),
  ([.iload 1, .sipush 1, .aload 0, .getfield 583, .ishl, .if_icmp .ge 3, .aload 0, .iload 1, .invokevirtual 31, .istore 2, .iload 2, .aload 0, .getfield 585, .if_icmp .ge 2, .aload 0, .iload 2, .putfield 585, .aload 0, .iload 1, .putfield 586], [16, 17, 18, 19, 22, 23, 26, 27, 28, 31, 32, 33, 34, 37, 40, 41, 42, 45, 46, 47, 50]),
  ([.iinc 1 1, .goto 1], [50, 53, 56]),
  ([.return_], [56, 57])]
def zB_31 : List (List Instr × List Nat) := [
  ([.aload 0, .getfield 584, .sipush 0, .iaload, .aload 0, .getfield 582, .iadd, .aload 0, .getfield 581, .iload 1, .iaload, .isub, .aload 0, .getfield 584, .sipush 1, .iaload, .aload 0, .getfield 581, .iload 1, .iaload, .iadd, .invokestatic 998, .ireturn], [0, 1, 4, 5, 6, 7, 10, 11, 12, 15, 16, 17, 18, 19, 22, 23, 24, 25, 28, 29, 30, 31, 34, 35])]
def zB_32 : List (List Instr × List Nat) := [
  ([.aload 0, .getfield 578, .iload 1, .iaload, .sipush (-1), .if_icmp .eq 1, .aload 0, .getfield 578, .iload 1, .iaload, .ireturn], [0, 1, 4, 5, 6, 7, 10, 11, 14, 15, 16, 17]),
  ([.sipush 0, .istore 2, .iload 1, .sipush 1, .iadd, .istore 3], [17, 18, 19, 20, 21, 22, 23]),
  ([.iload 3, .aload 0, .getfield 579, .if_icmp .ge 4, .aload 0, .getfield 577, .iload 3, .iaload, .aload 0, .getfield 577, .iload 1, .iaload, .if_icmp .ne 3, .aload 0, .getfield 578, .iload 3, .iaload, .sipush (-1), .if_icmp .ne 3, .iinc 2 1], [23, 24, 25, 28, 31, 32, 35, 36, 37, 38, 41, 42, 43, 46, 47, 50, 51, 52, 53, 56, 59]),
  ([.iinc 3 1, .goto 2], [59, 62, 65]),
  ([.aload 0, .getfield 586, .iload 2, .ishr, .sipush 1, .iand, .ireturn], [65, 66, 69, 70, 71, 72, 73, 74])]
def zB_33 : List (List Instr × List Nat) := [
  ([.sipush 0, .istore 2, .sipush 0, .istore 3], [0, 1, 2, 3, 4]),
  ([.iload 3, .aload 0, .getfield 579, .if_icmp .ge 3, .aload 0, .iload 3, .invokevirtual 34, .ifCond .eq 2, .aload 0, .aload 0, .getfield 577, .iload 3, .iaload, .aload 1, .invokevirtual 28, .aload 0, .getfield 585, .aload 0, .getfield 580, .if_icmp .le 2, .iinc 2 1], [4, 5, 6, 9, 12, 13, 14, 17, 20, 21, 22, 25, 26, 27, 28, 31, 32, 35, 36, 39, 42, 45]),
  ([.iinc 3 1, .goto 1], [45, 48, 51]),
  ([.iload 2, .ireturn], [51, 52, 53])]
def zB_34 : List (List Instr × List Nat) := [
  ([.sipush 0, .istore 2], [0, 1, 2]),
  ([.iload 2, .iload 1, .if_icmp .ge 3, .aload 0, .getfield 577, .iload 2, .iaload, .aload 0, .getfield 577, .iload 1, .iaload, .if_icmp .ne 2, .sipush 0, .ireturn], [2, 3, 4, 7, 8, 11, 12, 13, 14, 17, 18, 19, 22, 23, 24]),
  ([.iinc 2 1, .goto 1], [24, 27, 30]),
  ([.sipush 1, .ireturn], [30, 31, 32])]
def zB_35 : List (List Instr × List Nat) := [
  ([.iload 1, .ifCond .lt 1, .iload 1, .aload 0, .getfield 645, .if_icmp .ge 1, .sipush 1, .goto 2], [0, 1, 4, 5, 6, 9, 12, 13, 16]),
  ([.sipush 0], [16, 17]),
  ([.ireturn], [17, 18])]
def zB_36 : List (List Instr × List Nat) := [
  ([.aload 0, .getfield 645, .sipush 10, .if_icmp .lt 1, .sipush (-4), .ireturn], [0, 1, 4, 6, 9, 11, 12]),
  ([.aload 0, .getfield 640, .aload 0, .getfield 645, .iload 1, .iastore, .aload 0, .getfield 641, .aload 0, .getfield 645, .iload 2, .iastore, .aload 0, .getfield 642, .aload 0, .getfield 645, .iload 3, .iastore, .aload 0, .dup, .getfield 645, .dup_x1, .sipush 1, .iadd, .putfield 645, .ireturn], [12, 13, 16, 17, 20, 21, 22, 23, 26, 27, 30, 31, 32, 33, 36, 37, 40, 41, 42, 43, 44, 47, 48, 49, 50, 53, 54])]
def zB_37 : List (List Instr × List Nat) := [
  ([.iload 1, .sipush 0, .sipush 2, .invokestatic 55, .ifCond .eq 1, .iload 2, .sipush 0, .sipush 9, .invokestatic 55, .ifCond .eq 1, .iload 3, .sipush 1, .sipush 1000000, .invokestatic 55, .ifCond .ne 2], [0, 1, 2, 3, 6, 9, 10, 11, 13, 16, 19, 20, 21, 23, 26, 29]),
  ([.sipush (-2), .ireturn], [29, 31, 32]),
  ([.aload 0, .getfield 704, .iload 1, .iload 2, .iload 3, .invokevirtual 36, .ireturn], [32, 33, 36, 37, 38, 39, 42, 43])]
def zB_38 : List (List Instr × List Nat) := [
  ([.iload 1, .sipush 0, .sipush 99, .invokestatic 55, .ifCond .ne 1, .sipush (-2), .ireturn], [0, 1, 2, 4, 7, 10, 12, 13]),
  ([.aload 0, .getfield 705, .iload 1, .invokevirtual 15, .ireturn], [13, 14, 17, 18, 21, 22])]
def zB_39 : List (List Instr × List Nat) := [
  ([.aload 0, .getfield 705, .iload 1, .invokevirtual 14, .ifCond .eq 1, .aload 0, .getfield 704, .iload 2, .invokevirtual 35, .ifCond .ne 2], [0, 1, 4, 5, 8, 11, 12, 15, 16, 19, 22]),
  ([.sipush (-1), .ireturn], [22, 23, 24]),
  ([.iload 3, .sipush 0, .sipush 99, .invokestatic 55, .ifCond .ne 3, .sipush (-2), .ireturn], [24, 25, 26, 28, 31, 34, 36, 37]),
  ([.aload 0, .getfield 705, .getfield 451, .iload 1, .aaload, .iload 2, .iaload, .istore 4, .aload 0, .getfield 705, .getfield 451, .iload 1, .aaload, .iload 2, .iload 3, .iastore, .iload 4, .ireturn], [37, 38, 41, 44, 45, 46, 47, 48, 50, 51, 54, 57, 58, 59, 60, 61, 62, 64, 65])]
def zB_40 : List (List Instr × List Nat) := [
  ([.aload 0, .getfield 705, .iload 1, .invokevirtual 14, .ifCond .eq 1, .aload 0, .getfield 704, .iload 2, .invokevirtual 35, .ifCond .ne 2], [0, 1, 4, 5, 8, 11, 12, 15, 16, 19, 22]),
  ([.sipush (-1), .ireturn], [22, 23, 24]),
  ([.iload 3, .sipush 0, .sipush 100000, .invokestatic 55, .ifCond .eq 3, .iload 4, .iload 3, .sipush 100000, .invokestatic 55, .ifCond .ne 4], [24, 25, 26, 28, 31, 34, 36, 37, 39, 42, 45]),
  ([.sipush (-2), .ireturn], [45, 47, 48]),
  ([.aload 0, .iload 1, .iload 2, .invokevirtual 58, .ifCond .eq 5, .aload 0, .getfield 706, .iload 1, .iload 2, .iload 3, .iload 4, .invokevirtual 1, .ifCond .eq 6], [48, 49, 50, 51, 54, 57, 58, 61, 62, 63, 64, 66, 69, 72]),
  ([.sipush (-3), .ireturn], [72, 74, 75]),
  ([.aload 0, .getfield 706, .iload 1, .iload 2, .iload 3, .iload 4, .invokevirtual 0, .istore 5, .iload 5, .ifCond .lt 7, .aload 0, .getfield 705, .getfield 450, .iload 1, .dup2, .iaload, .sipush 1, .aload 0, .getfield 704, .getfield 641, .iload 2, .iaload, .ishl, .ior, .iastore], [75, 76, 79, 80, 81, 82, 84, 87, 89, 91, 94, 95, 98, 101, 102, 103, 104, 105, 106, 109, 112, 113, 114, 115, 116, 117]),
  ([.iload 5, .ireturn], [117, 119, 120])]
def zB_41 : List (List Instr × List Nat) := [
  ([.aload 0, .sipush 0, .putfield 716, .aload 0, .getfield 710, .iload 3, .invokevirtual 18, .ifCond .ne 1, .sipush (-1), .ireturn], [0, 1, 2, 5, 6, 9, 10, 13, 16, 17, 18]),
  ([.iload 4, .invokestatic 56, .ifCond .eq 2, .iload 1, .sipush 0, .sipush 100000, .invokestatic 55, .ifCond .eq 2, .iload 2, .sipush 1, .sipush 9, .invokestatic 55, .ifCond .ne 3], [18, 20, 23, 26, 27, 28, 30, 33, 36, 37, 38, 40, 43, 46]),
  ([.sipush (-2), .ireturn], [46, 48, 49]),
  ([.aload 0, .aload 0, .getfield 710, .iload 3, .iload 4, .iload 5, .aload 0, .getfield 705, .getfield 452, .invokevirtual 22, .invokevirtual 57, .istore 6, .iload 6, .ifCond .eq 4, .iload 6, .ireturn], [49, 50, 51, 54, 55, 57, 59, 60, 63, 66, 69, 72, 74, 76, 79, 81, 82]),
  ([.aload 0, .getfield 714, .aload 0, .getfield 706, .iload 1, .invokevirtual 2, .aload 0, .getfield 714, .aload 0, .getfield 710, .getfield 515, .aload 0, .getfield 705, .getfield 452, .aload 0, .getfield 704, .getfield 645, .invokevirtual 3, .ifCond .ne 5, .sipush (-2), .ireturn], [82, 83, 86, 87, 90, 91, 94, 95, 98, 99, 102, 105, 106, 109, 112, 113, 116, 119, 122, 125, 127, 128]),
  ([.aload 0, .getfield 714, .iload 2, .invokevirtual 5, .ireturn], [128, 129, 132, 133, 136, 137])]
def zB_42 : List (List Instr × List Nat) := [
  ([.aload 0, .getfield 704, .iload 1, .invokevirtual 35, .ifCond .ne 1, .sipush (-1), .ireturn], [0, 1, 4, 5, 8, 11, 12, 13]),
  ([.iload 2, .sipush 0, .sipush 100000, .invokestatic 55, .ifCond .eq 2, .iload 3, .sipush (-1), .sipush 1, .invokestatic 55, .ifCond .ne 3], [13, 14, 15, 17, 20, 23, 24, 25, 26, 29, 32]),
  ([.sipush (-2), .ireturn], [32, 34, 35]),
  ([.aload 0, .getfield 709, .iload 1, .iload 2, .iload 2, .invokevirtual 27, .ifCond .le 4, .sipush (-3), .ireturn], [35, 36, 39, 40, 41, 42, 45, 48, 50, 51]),
  ([.aload 0, .getfield 709, .iload 1, .iload 2, .iload 3, .invokevirtual 26, .ireturn], [51, 52, 55, 56, 57, 58, 61, 62])]
def zB_43 : List (List Instr × List Nat) := [
  ([.iload 1, .sipush 0, .sipush 100000, .invokestatic 55, .ifCond .ne 1, .sipush (-2), .ireturn], [0, 1, 2, 4, 7, 10, 12, 13]),
  ([.aload 0, .getfield 709, .iload 1, .aload 0, .getfield 704, .invokevirtual 28, .aload 0, .getfield 709, .getfield 585, .ireturn], [13, 14, 17, 18, 19, 22, 25, 26, 29, 32, 33])]
def zB_44 : List (List Instr × List Nat) := [
  ([.aload 0, .getfield 709, .iload 1, .invokevirtual 25, .ifCond .ne 1, .sipush (-1), .ireturn], [0, 1, 4, 5, 8, 11, 12, 13]),
  ([.aload 0, .getfield 709, .aload 0, .getfield 709, .getfield 577, .iload 1, .iaload, .aload 0, .getfield 704, .invokevirtual 28, .aload 0, .getfield 709, .iload 1, .invokevirtual 32, .ireturn], [13, 14, 17, 18, 21, 24, 25, 26, 27, 30, 33, 34, 37, 38, 41, 42])]
def zB_45 : List (List Instr × List Nat) := [
  ([.iload 1, .sipush 1, .sipush 100000000, .invokestatic 55, .ifCond .ne 1, .sipush (-2), .ireturn], [0, 1, 2, 5, 8, 11, 13, 14]),
  ([.aload 0, .getfield 709, .getfield 580, .istore 2, .aload 0, .getfield 709, .iload 1, .putfield 580, .iload 2, .ireturn], [14, 15, 18, 21, 22, 23, 26, 27, 30, 31, 32])]
def zB_46 : List (List Instr × List Nat) := [
  ([.aload 0, .getfield 709, .aload 0, .getfield 704, .invokevirtual 33, .ireturn], [0, 1, 4, 5, 8, 11, 12])]
def zB_47 : List (List Instr × List Nat) := [
  ([.aload 0, .sipush 0, .putfield 716, .aload 0, .getfield 710, .iload 1, .invokevirtual 18, .ifCond .ne 1, .sipush (-1), .ireturn], [0, 1, 2, 5, 6, 9, 10, 13, 16, 17, 18]),
  ([.iload 2, .invokestatic 56, .ifCond .eq 2, .iload 5, .sipush 0, .sipush 100, .invokestatic 55, .ifCond .eq 2, .iload 6, .iload 5, .sipush 100, .invokestatic 55, .ifCond .eq 2, .iload 7, .sipush 0, .sipush 1, .invokestatic 55, .ifCond .ne 3], [18, 19, 22, 25, 27, 28, 30, 33, 36, 38, 40, 42, 45, 48, 50, 51, 52, 55, 58]),
  ([.sipush (-2), .ireturn], [58, 60, 61]),
  ([.aload 0, .aload 0, .getfield 710, .iload 1, .iload 2, .iload 3, .iload 4, .invokevirtual 22, .invokevirtual 57, .istore 8, .iload 8, .ifCond .eq 4, .iload 8, .ireturn], [61, 62, 63, 66, 67, 68, 69, 71, 74, 77, 79, 81, 84, 86, 87]),
  ([.aload 0, .getfield 710, .iload 4, .sipush (-1), .sipush 100, .invokevirtual 23, .ifCond .ne 5, .sipush (-2), .ireturn], [87, 88, 91, 93, 94, 96, 99, 102, 104, 105]),
  ([.aload 0, .getfield 710, .iload 4, .iload 5, .iload 6, .iload 7, .sipush 1, .if_icmp .ne 6, .sipush 1, .goto 7], [105, 106, 109, 111, 113, 115, 117, 118, 121, 122, 125]),
  ([.sipush 0], [125, 126]),
  ([.invokevirtual 24, .ireturn], [126, 129, 130])]
def zB_48 : List (List Instr × List Nat) := [
  ([.aload 0, .sipush 0, .putfield 716, .aload 0, .getfield 704, .iload 1, .invokevirtual 35, .ifCond .eq 1, .aload 0, .getfield 710, .iload 2, .invokevirtual 18, .ifCond .ne 2], [0, 1, 2, 5, 6, 9, 10, 13, 16, 17, 20, 21, 24, 27]),
  ([.sipush (-1), .ireturn], [27, 28, 29]),
  ([.iload 3, .invokestatic 56, .ifCond .ne 3, .sipush (-2), .ireturn], [29, 30, 33, 36, 38, 39]),
  ([.aload 0, .aload 0, .getfield 710, .iload 2, .iload 3, .iload 4, .iload 5, .invokevirtual 22, .invokevirtual 57, .istore 6, .iload 6, .ifCond .eq 4, .iload 6, .ireturn], [39, 40, 41, 44, 45, 46, 48, 50, 53, 56, 58, 60, 63, 65, 66]),
  ([.iload 5, .sipush 20, .if_icmp .gt 5, .aload 0, .getfield 710, .iload 5, .sipush 1, .sipush 255, .invokevirtual 23, .ifCond .ne 6], [66, 68, 70, 73, 74, 77, 79, 80, 83, 86, 89]),
  ([.sipush (-2), .ireturn], [89, 91, 92]),
  ([.aload 0, .getfield 710, .getfield 515, .sipush 0, .aload 0, .getfield 704, .getfield 644, .iload 1, .aaload, .sipush 0, .iload 5, .invokestatic 999, .aload 0, .getfield 704, .getfield 643, .iload 1, .iload 5, .iastore, .iload 5, .ireturn], [92, 93, 96, 99, 100, 101, 104, 107, 108, 109, 110, 112, 115, 116, 119, 122, 123, 125, 126, 128, 129])]
def zB_49 : List (List Instr × List Nat) := [
  ([.aload 0, .sipush 0, .putfield 716, .aload 0, .getfield 710, .iload 1, .invokevirtual 18, .ifCond .ne 1, .sipush (-1), .ireturn], [0, 1, 2, 5, 6, 9, 10, 13, 16, 17, 18]),
  ([.iload 2, .invokestatic 56, .ifCond .eq 2, .iload 5, .sipush 0, .sipush 2100, .invokestatic 55, .ifCond .ne 3], [18, 19, 22, 25, 27, 28, 31, 34, 37]),
  ([.sipush (-2), .ireturn], [37, 39, 40]),
  ([.aload 0, .aload 0, .getfield 710, .iload 1, .iload 2, .iload 3, .iload 4, .invokevirtual 22, .invokevirtual 57, .istore 6, .iload 6, .ifCond .eq 4, .iload 6, .ireturn], [40, 41, 42, 45, 46, 47, 48, 50, 53, 56, 58, 60, 63, 65, 66]),
  ([.aload 0, .getfield 710, .iload 4, .sipush 1, .sipush 255, .invokevirtual 23, .ifCond .ne 5, .sipush (-2), .ireturn], [66, 67, 70, 72, 73, 76, 79, 82, 84, 85]),
  ([.aload 0, .getfield 710, .getfield 515, .sipush 0, .aload 0, .getfield 711, .getfield 384, .sipush 0, .iload 4, .invokestatic 999, .aload 0, .getfield 711, .iload 4, .putfield 385, .aload 0, .getfield 711, .iload 5, .putfield 386, .iload 4, .ireturn], [85, 86, 89, 92, 93, 94, 97, 100, 101, 103, 106, 107, 110, 112, 115, 116, 119, 121, 124, 126, 127])]
def zB_50 : List (List Instr × List Nat) := [
  ([.aload 0, .getfield 704, .iload 1, .invokevirtual 35, .ifCond .eq 1, .iload 3, .sipush 0, .sipush 1, .invokestatic 55, .ifCond .ne 2], [0, 1, 4, 5, 8, 11, 12, 13, 14, 17, 20]),
  ([.ldc2_w 0, .lreturn], [20, 23, 24]),
  ([.aload 0, .getfield 704, .getfield 643, .iload 1, .iaload, .istore 4, .iload 4, .ifCond .eq 3, .aload 0, .getfield 711, .getfield 385, .ifCond .eq 3, .iload 2, .sipush 1, .iload 4, .isub, .aload 0, .getfield 711, .getfield 385, .sipush 1, .isub, .invokestatic 55, .ifCond .ne 4], [24, 25, 28, 31, 32, 33, 35, 37, 40, 41, 44, 47, 50, 51, 52, 54, 55, 56, 59, 62, 63, 64, 67, 70]),
  ([.ldc2_w 0, .lreturn], [70, 73, 74]),
  ([.aload 0, .getfield 711, .aload 0, .getfield 704, .getfield 644, .iload 1, .aaload, .iload 4, .iload 2, .invokevirtual 9, .iload 3, .ifCond .ne 5, .aload 0, .getfield 711, .getfield 387, .aload 0, .getfield 711, .getfield 388, .isub, .i2l, .goto 6], [74, 75, 78, 79, 82, 85, 86, 87, 89, 90, 93, 94, 97, 98, 101, 104, 105, 108, 111, 112, 113, 116]),
  ([.aload 0, .getfield 711, .getfield 387, .aload 0, .getfield 711, .getfield 388, .iadd, .i2l], [116, 117, 120, 123, 124, 127, 130, 131, 132]),
  ([.lreturn], [132, 133])]
def zB_51 : List (List Instr × List Nat) := [
  ([.aload 0, .getfield 704, .iload 1, .invokevirtual 35, .ifCond .eq 1, .aload 0, .getfield 711, .aload 0, .getfield 704, .getfield 644, .iload 1, .aaload, .aload 0, .getfield 704, .getfield 643, .iload 1, .iaload, .invokevirtual 12, .ifCond .ne 2], [0, 1, 4, 5, 8, 11, 12, 15, 16, 19, 22, 23, 24, 25, 28, 31, 32, 33, 36, 39]),
  ([.ldc2_w 0, .lreturn], [39, 42, 43]),
  ([.iload 2, .lookupswitch 6 #[(0, 3), (1, 4), (2, 5)]], [43, 44, 72]),
  ([.aload 0, .getfield 711, .getfield 389, .i2l, .lreturn], [72, 73, 76, 79, 80, 81]),
  ([.aload 0, .getfield 711, .getfield 390, .i2l, .lreturn], [81, 82, 85, 88, 89, 90]),
  ([.aload 0, .getfield 711, .getfield 386, .aload 0, .getfield 711, .getfield 389, .iadd, .aload 0, .getfield 704, .getfield 643, .iload 1, .iaload, .iadd, .sipush 1, .isub, .i2l, .lreturn], [90, 91, 94, 97, 98, 101, 104, 105, 106, 109, 112, 113, 114, 115, 116, 117, 118, 119]),
  ([.ldc2_w 0, .lreturn], [119, 122, 123])]
def zB_52 : List (List Instr × List Nat) := [
  ([.aload 0, .getfield 704, .iload 1, .invokevirtual 35, .ifCond .eq 1, .aload 0, .getfield 704, .iload 2, .invokevirtual 35, .ifCond .ne 2], [0, 1, 4, 5, 8, 11, 12, 15, 16, 19, 22]),
  ([.sipush (-1), .ireturn], [22, 23, 24]),
  ([.iload 1, .iload 2, .if_icmp .ne 3, .sipush (-3), .ireturn], [24, 25, 26, 29, 31, 32]),
  ([.aload 0, .getfield 711, .aload 0, .getfield 704, .iload 1, .iload 2, .invokevirtual 13, .ifCond .eq 4, .sipush 1, .goto 5], [32, 33, 36, 37, 40, 41, 42, 45, 48, 49, 52]),
  ([.sipush 0], [52, 53]),
  ([.ireturn], [53, 54])]
def zB_53 : List (List Instr × List Nat) := [
  ([.aload 0, .sipush 0, .putfield 716, .aload 0, .getfield 710, .iload 1, .invokevirtual 18, .ifCond .ne 1, .sipush (-1), .ireturn], [0, 1, 2, 5, 6, 9, 10, 13, 16, 17, 18]),
  ([.iload 2, .invokestatic 56, .ifCond .eq 2, .iload 3, .sipush 60, .if_icmp .le 3], [18, 19, 22, 25, 26, 28, 31]),
  ([.sipush (-2), .ireturn], [31, 33, 34]),
  ([.iload 3, .ifCond .ge 4, .aload 0, .sipush 4, .invokevirtual 57, .ireturn], [34, 35, 38, 39, 40, 43, 44]),
  ([.aload 0, .getfield 710, .iload 1, .iload 2, .iload 3, .invokevirtual 19, .sipush 1, .ireturn], [44, 45, 48, 49, 50, 51, 54, 55, 56])]
def zB_54 : List (List Instr × List Nat) := [
  ([.aload 0, .sipush 0, .putfield 716, .aload 0, .getfield 710, .iload 1, .invokevirtual 18, .ifCond .ne 1, .sipush (-1), .ireturn], [0, 1, 2, 5, 6, 9, 10, 13, 16, 17, 18]),
  ([.aload 0, .aload 0, .getfield 710, .iload 1, .iload 2, .sipush 1, .invokevirtual 21, .invokevirtual 57, .istore 4, .iload 4, .ifCond .eq 2, .iload 4, .ireturn], [18, 19, 20, 23, 24, 25, 26, 29, 32, 34, 36, 39, 41, 42]),
  ([.aload 0, .getfield 710, .getfield 514, .iload 1, .aaload, .iload 2, .aload 0, .getfield 710, .getfield 512, .iload 1, .iaload, .iload 3, .invokestatic 20, .iastore, .sipush 1, .ireturn], [42, 43, 46, 49, 50, 51, 52, 53, 56, 59, 60, 61, 62, 65, 66, 67, 68])]
def zB_55 : List (List Instr × List Nat) := [
  ([.iload 0, .iload 1, .if_icmp .lt 1, .iload 0, .iload 2, .if_icmp .gt 1, .sipush 1, .goto 2], [0, 1, 2, 5, 6, 7, 10, 11, 14]),
  ([.sipush 0], [14, 15]),
  ([.ireturn], [15, 16])]
def zB_56 : List (List Instr × List Nat) := [
  ([.iload 0, .sipush 0, .sipush 2, .invokestatic 55, .ireturn], [0, 1, 2, 3, 6, 7])]
def zB_57 : List (List Instr × List Nat) := [
  ([.aload 0, .iload 1, .putfield 716, .iload 1, .ifCond .ne 1, .sipush 0, .goto 2], [0, 1, 2, 5, 6, 9, 10, 13]),
  ([.sipush (-10), .iload 1, .isub], [13, 15, 16, 17]),
  ([.ireturn], [17, 18])]
def zB_58 : List (List Instr × List Nat) := [
  ([.aload 0, .getfield 705, .iload 1, .iload 2, .aload 0, .getfield 704, .getfield 641, .iload 2, .iaload, .invokevirtual 17, .ireturn], [0, 1, 4, 5, 6, 7, 10, 13, 14, 15, 18, 19])]
def zB_59 : List (List Instr × List Nat) := [
  ([.iload 0, .iload 0, .sipush 1, .iushr, .sipush 1431655765, .iand, .isub, .istore 0, .iload 0, .sipush 858993459, .iand, .iload 0, .sipush 2, .iushr, .sipush 858993459, .iand, .iadd, .istore 0, .iload 0, .iload 0, .sipush 4, .iushr, .iadd, .sipush 252645135, .iand, .istore 0, .iload 0, .iload 0, .sipush 8, .iushr, .iadd, .istore 0, .iload 0, .iload 0, .sipush 16, .iushr, .iadd, .istore 0, .iload 0, .sipush 63, .iand, .ireturn], [0, 1, 2, 3, 4, 7, 8, 9, 10, 11, 14, 15, 16, 17, 18, 21, 22, 23, 24, 25, 26, 27, 28, 29, 32, 33, 34, 35, 36, 38, 39, 40, 41, 42, 43, 45, 46, 47, 48, 49, 51, 52, 53])]
def zB_60 : List (List Instr × List Nat) := [
  ([.sipush 0, .istore 2, .aload 0, .arraylength, .istore 3], [0, 1, 2, 3, 4, 5]),
  ([.iload 2, .iload 3, .if_icmp .ge 2, .aload 0, .iload 2, .iload 1, .iastore, .iinc 2 1, .goto 1], [5, 6, 7, 10, 11, 12, 13, 14, 17, 20]),
  ([.return_], [20, 21])]
def zB_61 : List (List Instr × List Nat) := [
  ([.iload 1, .aload 0, .arraylength, .if_icmp .ge 1, .aload 0, .iload 1, .iaload, .goto 2], [0, 1, 2, 3, 6, 7, 8, 9, 12]),
  ([.sipush 747796405, .iload 1, .sipush 1, .iadd, .imul], [12, 14, 15, 16, 17, 18]),
  ([.ireturn], [18, 19])]
def zB_62 : List (List Instr × List Nat) := [
  ([.iload 0, .sipush 2147483647, .iand, .iload 1, .irem, .ireturn], [0, 1, 3, 4, 5, 6, 7])]
set_option maxRecDepth 100000 in
def zB_63_0 : List Instr × List Nat := ([.sipush 2, .aload 0, .sipush 0, .invokestatic 61, .sipush 4, .invokestatic 62, .iadd, .istore 2, .sipush 5, .newarray .int, .astore 3, .sipush 0, .istore 4], [8, 9, 10, 11, 14, 15, 18, 19, 20, 21, 23, 24, 25, 27])
set_option maxRecDepth 100000 in
def zB_63_1 : List Instr × List Nat := ([.iload 4, .iload 2, .if_icmp .ge 5, .aload 3, .iload 4, .sipush 1, .aload 0, .sipush 1, .iload 4, .iadd, .invokestatic 61, .aload 0, .sipush 1, .iload 4, .iadd, .invokestatic 61, .sipush 20, .ishr, .sipush 2, .invokestatic 62, .ifCond .ne 2, .sipush 9, .goto 3], [27, 29, 30, 33, 34, 36, 37, 38, 39, 41, 42, 45, 46, 47, 49, 50, 53, 55, 56, 57, 60, 63, 65, 68])
set_option maxRecDepth 100000 in
def zB_63_2 : List Instr × List Nat := ([.sipush 1000], [68, 71])
set_option maxRecDepth 100000 in
def zB_63_3 : List Instr × List Nat := ([.invokestatic 62, .iadd, .iastore, .aload 1, .aload 0, .sipush 1, .iload 4, .iadd, .invokestatic 61, .sipush 12, .ishr, .sipush 3, .invokestatic 62, .iload 4, .aload 3, .iload 4, .iaload, .invokevirtual 37, .iload 4, .if_icmp .eq 4, .sipush 0, .ireturn], [71, 74, 75, 76, 77, 78, 79, 81, 82, 85, 87, 88, 89, 92, 94, 95, 97, 98, 101, 103, 106, 107, 108])
set_option maxRecDepth 100000 in
def zB_63_4 : List Instr × List Nat := ([.iinc 4 1, .goto 1], [108, 111, 114])
set_option maxRecDepth 100000 in
def zB_63_5 : List Instr × List Nat := ([.sipush 5, .newarray .int, .astore 4, .sipush 5, .newarray .int, .astore 5, .sipush 0, .istore 6, .aload 0, .sipush 6, .invokestatic 61, .iload 2, .invokestatic 62, .istore 7, .sipush 0, .istore 8], [114, 115, 117, 119, 120, 122, 124, 125, 127, 128, 130, 133, 134, 137, 139, 140, 142])
set_option maxRecDepth 100000 in
def zB_63_6 : List Instr × List Nat := ([.iload 8, .iload 2, .if_icmp .ge 12, .iload 8, .iload 7, .iadd, .iload 2, .irem, .istore 9, .aload 0, .sipush 7, .iload 8, .iadd, .invokestatic 61, .sipush 5, .invokestatic 62, .ifCond .ne 7, .goto 11], [142, 144, 145, 148, 150, 152, 153, 154, 155, 157, 158, 160, 162, 163, 166, 167, 170, 173, 176])
set_option maxRecDepth 100000 in
def zB_63_7 : List Instr × List Nat := ([.aload 4, .iload 6, .aload 0, .sipush 7, .iload 8, .iadd, .invokestatic 61, .sipush 3, .ishr, .sipush 2, .invokestatic 62, .ifCond .ne 8, .sipush (-1), .goto 9], [176, 178, 180, 181, 183, 185, 186, 189, 190, 191, 192, 195, 198, 199, 202])
set_option maxRecDepth 100000 in
def zB_63_8 : List Instr × List Nat := ([.aload 0, .sipush 7, .iload 8, .iadd, .invokestatic 61, .sipush 4, .ishr, .sipush 2, .invokestatic 62], [202, 203, 205, 207, 208, 211, 212, 213, 214, 217])
set_option maxRecDepth 100000 in
def zB_63_9 : List Instr × List Nat := ([.iastore, .aload 5, .iload 6, .iload 9, .iastore, .aload 1, .iload 9, .sipush 9, .aload 4, .iload 6, .iaload, .invokevirtual 42, .iload 6, .if_icmp .eq 10, .sipush 0, .ireturn], [217, 218, 220, 222, 224, 225, 226, 228, 230, 232, 234, 235, 238, 240, 243, 244, 245])
set_option maxRecDepth 100000 in
def zB_63_10 : List Instr × List Nat := ([.iinc 6 1], [245, 248])
set_option maxRecDepth 100000 in
def zB_63_11 : List Instr × List Nat := ([.iinc 8 1, .goto 6], [248, 251, 254])
set_option maxRecDepth 100000 in
def zB_63_12 : List Instr × List Nat := ([.sipush (-1), .istore 8, .sipush 0, .istore 9, .sipush 0, .istore 10], [254, 255, 257, 258, 260, 261, 263])
set_option maxRecDepth 100000 in
def zB_63_13 : List Instr × List Nat := ([.iload 10, .sipush 1, .iload 6, .ishl, .if_icmp .ge 27, .sipush 0, .istore 11, .sipush 0, .istore 12, .sipush 1, .istore 13, .sipush 0, .istore 14], [263, 265, 266, 268, 269, 272, 273, 275, 276, 278, 279, 281, 282, 284])
set_option maxRecDepth 100000 in
def zB_63_14 : List Instr × List Nat := ([.iload 14, .iload 6, .if_icmp .ge 22, .iload 10, .iload 6, .sipush 1, .isub, .iload 14, .isub, .ishr, .sipush 1, .iand, .istore 15, .iload 13, .ifCond .eq 16, .aload 4, .iload 14, .iaload, .ifCond .lt 15, .aload 4, .iload 14, .iaload, .iload 15, .if_icmp .ne 16], [284, 286, 288, 291, 293, 295, 296, 297, 299, 300, 301, 302, 303, 305, 307, 310, 312, 314, 315, 318, 320, 322, 323, 325, 328])
set_option maxRecDepth 100000 in
def zB_63_15 : List Instr × List Nat := ([.sipush 1, .goto 17], [328, 329, 332])
set_option maxRecDepth 100000 in
def zB_63_16 : List Instr × List Nat := ([.sipush 0], [332, 333])
set_option maxRecDepth 100000 in
def zB_63_17 : List Instr × List Nat := ([.istore 13, .iload 11, .iload 15, .ifCond .ne 18, .aload 3, .aload 5, .iload 14, .iaload, .iaload, .goto 19], [333, 335, 337, 339, 342, 343, 345, 347, 348, 349, 352])
set_option maxRecDepth 100000 in
def zB_63_18 : List Instr × List Nat := ([.sipush 0], [352, 353])
set_option maxRecDepth 100000 in
def zB_63_19 : List Instr × List Nat := ([.iadd, .istore 11, .iload 12, .iload 15, .sipush 1, .if_icmp .ne 20, .aload 3, .aload 5, .iload 14, .iaload, .iaload, .goto 21], [353, 354, 356, 358, 360, 361, 364, 365, 367, 369, 370, 371, 374])
set_option maxRecDepth 100000 in
def zB_63_20 : List Instr × List Nat := ([.sipush 0], [374, 375])
set_option maxRecDepth 100000 in
def zB_63_21 : List Instr × List Nat := ([.iadd, .istore 12, .iinc 14 1, .goto 14], [375, 376, 378, 381, 384])
set_option maxRecDepth 100000 in
def zB_63_22 : List Instr × List Nat := ([.iload 11, .iload 12, .if_icmp .le 23, .iload 11, .goto 24], [384, 386, 388, 391, 393, 396])
set_option maxRecDepth 100000 in
def zB_63_23 : List Instr × List Nat := ([.iload 12], [396, 398])
set_option maxRecDepth 100000 in
def zB_63_24 : List Instr × List Nat := ([.istore 14, .iload 13, .ifCond .eq 26, .iload 8, .ifCond .lt 25, .iload 14, .iload 8, .if_icmp .lt 25, .goto 26], [398, 400, 402, 405, 407, 410, 412, 414, 417, 420])
set_option maxRecDepth 100000 in
def zB_63_25 : List Instr × List Nat := ([.iload 14, .istore 8, .iload 10, .istore 9], [420, 422, 424, 426, 428])
set_option maxRecDepth 100000 in
def zB_63_26 : List Instr × List Nat := ([.iinc 10 1, .goto 13], [428, 431, 434])
set_option maxRecDepth 100000 in
def zB_63_27 : List Instr × List Nat := ([.aload 1, .sipush 9, .invokevirtual 43, .iload 8, .if_icmp .ne 28, .aload 1, .sipush 8, .invokevirtual 43, .ifCond .eq 29], [434, 435, 437, 440, 442, 445, 446, 448, 451, 454])
set_option maxRecDepth 100000 in
def zB_63_28 : List Instr × List Nat := ([.sipush 0, .ireturn], [454, 455, 456])
set_option maxRecDepth 100000 in
def zB_63_29 : List Instr × List Nat := ([.sipush 0, .istore 10], [456, 457, 459])
set_option maxRecDepth 100000 in
def zB_63_30 : List Instr × List Nat := ([.iload 10, .iload 6, .if_icmp .ge 32, .aload 1, .iload 10, .invokevirtual 44, .iload 9, .iload 6, .sipush 1, .isub, .iload 10, .isub, .ishr, .sipush 1, .iand, .if_icmp .eq 31, .sipush 0, .ireturn], [459, 461, 463, 466, 467, 469, 472, 474, 476, 477, 478, 480, 481, 482, 483, 484, 487, 488, 489])
set_option maxRecDepth 100000 in
def zB_63_31 : List Instr × List Nat := ([.iinc 10 1, .goto 30], [489, 492, 495])
set_option maxRecDepth 100000 in
def zB_63_32 : List Instr × List Nat := ([.aload 1, .iload 8, .ifCond .le 33, .iload 8, .goto 34], [495, 496, 498, 501, 503, 506])
set_option maxRecDepth 100000 in
def zB_63_33 : List Instr × List Nat := ([.sipush 1], [506, 507])
set_option maxRecDepth 100000 in
def zB_63_34 : List Instr × List Nat := ([.invokevirtual 45, .sipush 1000000, .if_icmp .ne 35, .aload 1, .invokevirtual 46, .ifCond .ne 35, .iload 8, .sipush 1, .if_icmp .le 36, .aload 1, .iload 8, .sipush 1, .isub, .invokevirtual 45, .iload 8, .if_icmp .ne 35, .aload 1, .invokevirtual 46, .sipush 1, .if_icmp .eq 36], [507, 510, 512, 515, 516, 519, 522, 524, 525, 528, 529, 531, 532, 533, 536, 538, 541, 542, 545, 546, 549])
set_option maxRecDepth 100000 in
def zB_63_35 : List Instr × List Nat := ([.sipush 0, .ireturn], [549, 550, 551])
set_option maxRecDepth 100000 in
def zB_63_36 : List Instr × List Nat := ([.aload 1, .sipush 0, .sipush 0, .sipush 30, .invokevirtual 53, .sipush 1, .if_icmp .eq 37, .sipush 0, .ireturn], [551, 552, 553, 554, 556, 559, 560, 563, 564, 565])
set_option maxRecDepth 100000 in
def zB_63_37 : List Instr × List Nat := ([.aload 0, .sipush 12, .invokestatic 61, .sipush 25, .invokestatic 62, .istore 10, .aload 0, .sipush 13, .invokestatic 61, .sipush 40, .invokestatic 62, .istore 11, .iload 11, .aload 0, .sipush 13, .invokestatic 61, .sipush 8, .ishr, .sipush 40, .invokestatic 62, .iadd, .istore 12, .sipush 0, .istore 13, .sipush 0, .istore 14, .sipush 0, .istore 15, .sipush 0, .istore 16, .sipush 0, .istore 17], [565, 566, 568, 571, 573, 576, 578, 579, 581, 584, 586, 589, 591, 593, 594, 596, 599, 601, 602, 604, 607, 608, 610, 611, 613, 614, 616, 617, 619, 620, 622, 623, 625])
set_option maxRecDepth 100000 in
def zB_63_38 : List Instr × List Nat := ([.iload 17, .iload 10, .if_icmp .ge 54, .aload 0, .sipush 14, .iload 17, .sipush 4, .idiv, .iadd, .invokestatic 61, .sipush 7, .iload 17, .sipush 4, .irem, .imul, .ishr, .istore 18, .iload 18, .sipush 4, .invokestatic 62, .ifCond .ne 39, .sipush (-1), .goto 41], [625, 627, 629, 632, 633, 635, 637, 638, 639, 640, 643, 645, 647, 648, 649, 650, 651, 653, 655, 656, 659, 662, 663, 666])
set_option maxRecDepth 100000 in
def zB_63_39 : List Instr × List Nat := ([.iload 18, .sipush 2, .invokestatic 62, .ifCond .ne 40, .iload 18, .sipush 2, .ishr, .sipush 101, .invokestatic 62, .goto 41], [666, 668, 669, 672, 675, 677, 678, 679, 681, 684, 687])
set_option maxRecDepth 100000 in
def zB_63_40 : List Instr × List Nat := ([.iload 11, .iload 18, .sipush 2, .ishr, .iload 12, .iload 11, .isub, .sipush 1, .iadd, .invokestatic 62, .iadd], [687, 689, 691, 692, 693, 695, 697, 698, 699, 700, 703, 704])
set_option maxRecDepth 100000 in
def zB_63_41 : List Instr × List Nat := ([.istore 19, .aload 1, .sipush 0, .sipush 3, .iload 17, .iadd, .iload 19, .invokevirtual 54, .sipush 1, .if_icmp .eq 42, .sipush 0, .ireturn], [704, 706, 707, 708, 709, 711, 712, 714, 717, 718, 721, 722, 723])
set_option maxRecDepth 100000 in
def zB_63_42 : List Instr × List Nat := ([.iload 19, .iload 11, .if_icmp .lt 43, .iload 19, .iload 12, .if_icmp .gt 43, .sipush 1, .goto 44], [723, 725, 727, 730, 732, 734, 737, 738, 741])
set_option maxRecDepth 100000 in
def zB_63_43 : List Instr × List Nat := ([.sipush 0], [741, 742])
set_option maxRecDepth 100000 in
def zB_63_44 : List Instr × List Nat := ([.istore 20, .iload 20, .ifCond .ne 46, .iload 16, .ifCond .ne 45, .iload 19, .ifCond .lt 46], [742, 744, 746, 749, 751, 754, 756, 759])
set_option maxRecDepth 100000 in
def zB_63_45 : List Instr × List Nat := ([.sipush 1, .goto 47], [759, 760, 763])
set_option maxRecDepth 100000 in
def zB_63_46 : List Instr × List Nat := ([.sipush 0], [763, 764])
set_option maxRecDepth 100000 in
def zB_63_47 : List Instr × List Nat := ([.istore 16, .iload 20, .ifCond .eq 48, .sipush 0, .goto 49], [764, 766, 768, 771, 772, 775])
set_option maxRecDepth 100000 in
def zB_63_48 : List Instr × List Nat := ([.iload 15, .sipush 1, .iadd], [775, 777, 778, 779])
set_option maxRecDepth 100000 in
def zB_63_49 : List Instr × List Nat := ([.istore 15, .iload 15, .iload 13, .if_icmp .le 50, .iload 15, .goto 51], [779, 781, 783, 785, 788, 790, 793])
set_option maxRecDepth 100000 in
def zB_63_50 : List Instr × List Nat := ([.iload 13], [793, 795])
set_option maxRecDepth 100000 in
def zB_63_51 : List Instr × List Nat := ([.istore 13, .iload 16, .ifCond .eq 52, .iload 15, .iload 14, .if_icmp .le 52, .iload 15, .goto 53], [795, 797, 799, 802, 804, 806, 809, 811, 814])
set_option maxRecDepth 100000 in
def zB_63_52 : List Instr × List Nat := ([.iload 14], [814, 816])
set_option maxRecDepth 100000 in
def zB_63_53 : List Instr × List Nat := ([.istore 14, .iinc 17 1, .goto 38], [816, 818, 821, 824])
set_option maxRecDepth 100000 in
def zB_63_54 : List Instr × List Nat := ([.aload 1, .sipush 0, .sipush 0, .sipush 3, .iload 10, .iload 11, .iload 12, .sipush 0, .invokevirtual 47, .iload 13, .if_icmp .ne 55, .aload 1, .sipush 0, .sipush 0, .sipush 3, .iload 10, .iload 11, .iload 12, .sipush 1, .invokevirtual 47, .iload 14, .if_icmp .eq 56], [824, 825, 826, 827, 828, 830, 832, 834, 835, 838, 840, 843, 844, 845, 846, 847, 849, 851, 853, 854, 857, 859, 862])
set_option maxRecDepth 100000 in
def zB_63_55 : List Instr × List Nat := ([.sipush 0, .ireturn], [862, 863, 864])
set_option maxRecDepth 100000 in
def zB_63_56 : List Instr × List Nat := ([.aload 0, .sipush 21, .invokestatic 61, .sipush 30, .invokestatic 62, .istore 17, .sipush 30, .newarray .int, .astore 18, .sipush 40, .newarray .int, .astore 19, .sipush 2, .newarray .int, .astore 20, .aload 1, .sipush 1, .sipush 1, .sipush 30, .invokevirtual 53, .sipush 1, .if_icmp .eq 57, .sipush 0, .ireturn], [864, 865, 867, 870, 872, 875, 877, 879, 881, 883, 885, 887, 889, 890, 892, 894, 895, 896, 897, 899, 902, 903, 906, 907, 908])
set_option maxRecDepth 100000 in
def zB_63_57 : List Instr × List Nat := ([.sipush 0, .istore 21], [908, 909, 911])
set_option maxRecDepth 100000 in
def zB_63_58 : List Instr × List Nat := ([.iload 21, .iload 17, .if_icmp .ge 60, .aload 18, .iload 21, .sipush 1, .aload 0, .sipush 22, .iload 21, .sipush 5, .idiv, .iadd, .invokestatic 61, .sipush 6, .iload 21, .sipush 5, .irem, .imul, .ishr, .sipush 9, .invokestatic 62, .iadd, .iastore, .aload 1, .sipush 1, .iload 21, .aload 18, .iload 21, .iaload, .invokevirtual 54, .sipush 1, .if_icmp .eq 59, .sipush 0, .ireturn], [911, 913, 915, 918, 920, 922, 923, 924, 926, 928, 929, 930, 931, 934, 936, 938, 939, 940, 941, 942, 944, 947, 948, 949, 950, 951, 953, 955, 957, 958, 961, 962, 965, 966, 967])
set_option maxRecDepth 100000 in
def zB_63_59 : List Instr × List Nat := ([.iinc 21 1, .goto 58], [967, 970, 973])
set_option maxRecDepth 100000 in
def zB_63_60 : List Instr × List Nat := ([.aload 0, .sipush 28, .invokestatic 61, .sipush 2101, .invokestatic 62, .istore 21, .aload 1, .sipush 1, .sipush 1, .sipush 0, .iload 17, .iload 21, .invokevirtual 49, .iload 17, .if_icmp .eq 61, .sipush 0, .ireturn], [973, 974, 976, 979, 982, 985, 987, 988, 989, 990, 991, 993, 995, 998, 1000, 1003, 1004, 1005])
set_option maxRecDepth 100000 in
def zB_63_61 : List Instr × List Nat := ([.sipush 0, .istore 22], [1005, 1006, 1008])
set_option maxRecDepth 100000 in
def zB_63_62 : List Instr × List Nat := ([.iload 22, .sipush 2, .if_icmp .ge 98, .aload 20, .iload 22, .aload 0, .sipush 29, .iload 22, .iadd, .invokestatic 61, .sipush 16, .invokestatic 62, .iastore, .aload 0, .sipush 29, .iload 22, .iadd, .invokestatic 61, .sipush 5, .ishr, .sipush 20, .invokestatic 62, .istore 23, .sipush 0, .istore 24], [1008, 1010, 1011, 1014, 1016, 1018, 1019, 1021, 1023, 1024, 1027, 1029, 1032, 1033, 1034, 1036, 1038, 1039, 1042, 1043, 1044, 1046, 1049, 1051, 1052, 1054])
set_option maxRecDepth 100000 in
def zB_63_63 : List Instr × List Nat := ([.iload 24, .aload 20, .iload 22, .iaload, .if_icmp .ge 68, .aload 19, .sipush 20, .iload 22, .imul, .iload 24, .iadd, .iload 23, .iload 24, .iadd, .iload 17, .if_icmp .ge 64, .aload 18, .iload 23, .iload 24, .iadd, .iaload, .sipush 3, .imul, .goto 65], [1054, 1056, 1058, 1060, 1061, 1064, 1066, 1068, 1070, 1071, 1073, 1074, 1076, 1078, 1079, 1081, 1084, 1086, 1088, 1090, 1091, 1092, 1093, 1094, 1097])
set_option maxRecDepth 100000 in
def zB_63_64 : List Instr × List Nat := ([.sipush 1, .aload 0, .sipush 31, .iload 22, .iadd, .invokestatic 61, .iload 24, .ishr, .sipush 9, .invokestatic 62, .iadd], [1097, 1098, 1099, 1101, 1103, 1104, 1107, 1109, 1110, 1112, 1115, 1116])
set_option maxRecDepth 100000 in
def zB_63_65 : List Instr × List Nat := ([.iastore, .aload 0, .sipush 33, .iload 22, .iadd, .invokestatic 61, .iload 24, .ishr, .sipush 9, .invokestatic 62, .ifCond .ne 66, .aload 19, .sipush 20, .iload 22, .imul, .iload 24, .iadd, .sipush 1, .aload 0, .sipush 33, .iload 22, .iadd, .invokestatic 61, .sipush 3, .iload 24, .iadd, .ishr, .sipush 30, .invokestatic 62, .iadd, .iastore], [1116, 1117, 1118, 1120, 1122, 1123, 1126, 1128, 1129, 1131, 1134, 1137, 1139, 1141, 1143, 1144, 1146, 1147, 1148, 1149, 1151, 1153, 1154, 1157, 1158, 1160, 1161, 1162, 1164, 1167, 1168, 1169])
set_option maxRecDepth 100000 in
def zB_63_66 : List Instr × List Nat := ([.aload 1, .sipush 1, .iload 24, .aload 19, .sipush 20, .iload 22, .imul, .iload 24, .iadd, .iaload, .invokevirtual 54, .sipush 1, .if_icmp .eq 67, .sipush 0, .ireturn], [1169, 1170, 1171, 1173, 1175, 1177, 1179, 1180, 1182, 1183, 1184, 1187, 1188, 1191, 1192, 1193])
set_option maxRecDepth 100000 in
def zB_63_67 : List Instr × List Nat := ([.iinc 24 1, .goto 63], [1193, 1196, 1199])
set_option maxRecDepth 100000 in
def zB_63_68 : List Instr × List Nat := ([.aload 1, .iload 22, .sipush 1, .sipush 1, .sipush 0, .aload 20, .iload 22, .iaload, .invokevirtual 48, .aload 20, .iload 22, .iaload, .if_icmp .eq 69, .sipush 0, .ireturn], [1199, 1200, 1202, 1203, 1204, 1205, 1207, 1209, 1210, 1213, 1215, 1217, 1218, 1221, 1222, 1223])
set_option maxRecDepth 100000 in
def zB_63_69 : List Instr × List Nat := ([.sipush 0, .istore 24, .sipush 0, .istore 25, .sipush 0, .istore 26, .sipush 1, .aload 20, .iload 22, .iaload, .isub, .istore 27], [1223, 1224, 1226, 1227, 1229, 1230, 1232, 1233, 1235, 1237, 1238, 1239, 1241])
set_option maxRecDepth 100000 in
def zB_63_70 : List Instr × List Nat := ([.iload 27, .iload 17, .if_icmp .ge 89, .sipush 0, .istore 28, .sipush 0, .istore 29, .sipush 1, .istore 30], [1241, 1243, 1245, 1248, 1249, 1251, 1252, 1254, 1255, 1257])
set_option maxRecDepth 100000 in
def zB_63_71 : List Instr × List Nat := ([.iload 30, .aload 20, .iload 22, .iaload, .if_icmp .ge 84, .iload 27, .iload 30, .iadd, .sipush 1, .if_icmp .lt 83, .iload 27, .iload 30, .iadd, .iload 17, .if_icmp .lt 72, .goto 83], [1257, 1259, 1261, 1263, 1264, 1267, 1269, 1271, 1272, 1273, 1276, 1278, 1280, 1281, 1283, 1286, 1289])
set_option maxRecDepth 100000 in
def zB_63_72 : List Instr × List Nat := ([.aload 19, .sipush 20, .iload 22, .imul, .iload 30, .iadd, .iaload, .aload 19, .sipush 20, .iload 22, .imul, .iload 30, .iadd, .sipush 1, .isub, .iaload, .isub, .istore 31, .aload 18, .iload 27, .iload 30, .iadd, .iaload, .aload 18, .iload 27, .iload 30, .iadd, .sipush 1, .isub, .iaload, .isub, .istore 32, .iinc 28 1, .iload 29, .iload 31, .ifCond .le 73, .sipush 1, .goto 74], [1289, 1291, 1293, 1295, 1296, 1298, 1299, 1300, 1302, 1304, 1306, 1307, 1309, 1310, 1311, 1312, 1313, 1314, 1316, 1318, 1320, 1322, 1323, 1324, 1326, 1328, 1330, 1331, 1332, 1333, 1334, 1335, 1337, 1340, 1342, 1344, 1347, 1348, 1351])
set_option maxRecDepth 100000 in
def zB_63_73 : List Instr × List Nat := ([.sipush 0], [1351, 1352])
set_option maxRecDepth 100000 in
def zB_63_74 : List Instr × List Nat := ([.iload 32, .ifCond .le 75, .sipush 1, .goto 76], [1352, 1354, 1357, 1358, 1361])
set_option maxRecDepth 100000 in
def zB_63_75 : List Instr × List Nat := ([.sipush 0], [1361, 1362])
set_option maxRecDepth 100000 in
def zB_63_76 : List Instr × List Nat := ([.if_icmp .ne 81, .iload 31, .ifCond .ge 77, .sipush 1, .goto 78], [1362, 1365, 1367, 1370, 1371, 1374])
set_option maxRecDepth 100000 in
def zB_63_77 : List Instr × List Nat := ([.sipush 0], [1374, 1375])
set_option maxRecDepth 100000 in
def zB_63_78 : List Instr × List Nat := ([.iload 32, .ifCond .ge 79, .sipush 1, .goto 80], [1375, 1377, 1380, 1381, 1384])
set_option maxRecDepth 100000 in
def zB_63_79 : List Instr × List Nat := ([.sipush 0], [1384, 1385])
set_option maxRecDepth 100000 in
def zB_63_80 : List Instr × List Nat := ([.if_icmp .ne 81, .sipush 1, .goto 82], [1385, 1388, 1389, 1392])
set_option maxRecDepth 100000 in
def zB_63_81 : List Instr × List Nat := ([.sipush (-1)], [1392, 1393])
set_option maxRecDepth 100000 in
def zB_63_82 : List Instr × List Nat := ([.iadd, .istore 29], [1393, 1394, 1396])
set_option maxRecDepth 100000 in
def zB_63_83 : List Instr × List Nat := ([.iinc 30 1, .goto 71], [1396, 1399, 1402])
set_option maxRecDepth 100000 in
def zB_63_84 : List Instr × List Nat := ([.aload 20, .iload 22, .iaload, .ifCond .le 86, .iload 17, .ifCond .le 86, .aload 1, .iload 22, .iload 27, .sipush 0, .invokevirtual 50, .iload 29, .i2l, .lcmp, .ifCond .ne 85, .aload 1, .iload 22, .iload 27, .sipush 1, .invokevirtual 50, .iload 28, .i2l, .lcmp, .ifCond .eq 86], [1402, 1404, 1406, 1407, 1410, 1412, 1415, 1416, 1418, 1420, 1421, 1424, 1426, 1427, 1428, 1431, 1432, 1434, 1436, 1437, 1440, 1442, 1443, 1444, 1447])
set_option maxRecDepth 100000 in
def zB_63_85 : List Instr × List Nat := ([.sipush 0, .ireturn], [1447, 1448, 1449])
set_option maxRecDepth 100000 in
def zB_63_86 : List Instr × List Nat := ([.iload 28, .sipush 5, .if_icmp .lt 88, .iload 24, .ifCond .eq 87, .iload 29, .iload 26, .if_icmp .gt 87, .goto 88], [1449, 1451, 1452, 1455, 1457, 1460, 1462, 1464, 1467, 1470])
set_option maxRecDepth 100000 in
def zB_63_87 : List Instr × List Nat := ([.sipush 1, .istore 24, .iload 27, .istore 25, .iload 29, .istore 26], [1470, 1471, 1473, 1475, 1477, 1479, 1481])
set_option maxRecDepth 100000 in
def zB_63_88 : List Instr × List Nat := ([.iinc 27 1, .goto 70], [1481, 1484, 1487])
set_option maxRecDepth 100000 in
def zB_63_89 : List Instr × List Nat := ([.ldc2_w 1, .lstore 27, .aload 1, .iload 22, .sipush 0, .invokevirtual 51, .iload 24, .ifCond .eq 90, .iload 25, .i2l, .goto 91], [1487, 1490, 1492, 1493, 1495, 1496, 1499, 1501, 1504, 1506, 1507, 1510])
set_option maxRecDepth 100000 in
def zB_63_90 : List Instr × List Nat := ([.lload 27], [1510, 1512])
set_option maxRecDepth 100000 in
def zB_63_91 : List Instr × List Nat := ([.lcmp, .ifCond .ne 96, .aload 1, .iload 22, .sipush 1, .invokevirtual 51, .iload 24, .ifCond .eq 92, .iload 26, .i2l, .goto 93], [1512, 1513, 1516, 1517, 1519, 1520, 1523, 1525, 1528, 1530, 1531, 1534])
set_option maxRecDepth 100000 in
def zB_63_92 : List Instr × List Nat := ([.lload 27], [1534, 1536])
set_option maxRecDepth 100000 in
def zB_63_93 : List Instr × List Nat := ([.lcmp, .ifCond .ne 96, .aload 1, .iload 22, .sipush 2, .invokevirtual 51, .iload 24, .ifCond .eq 94, .iload 21, .iload 25, .iadd, .aload 20, .iload 22, .iaload, .iadd, .i2l, .lconst 1, .lsub, .goto 95], [1536, 1537, 1540, 1541, 1543, 1544, 1547, 1549, 1552, 1554, 1556, 1557, 1559, 1561, 1562, 1563, 1564, 1565, 1566, 1569])
set_option maxRecDepth 100000 in
def zB_63_94 : List Instr × List Nat := ([.lload 27], [1569, 1571])
set_option maxRecDepth 100000 in
def zB_63_95 : List Instr × List Nat := ([.lcmp, .ifCond .ne 96, .aload 1, .iload 22, .iload 17, .sipush 0, .invokevirtual 50, .lload 27, .lcmp, .ifCond .ne 96, .aload 1, .iload 22, .aload 20, .iload 22, .iaload, .ineg, .sipush 0, .invokevirtual 50, .lload 27, .lcmp, .ifCond .eq 97], [1571, 1572, 1575, 1576, 1578, 1580, 1581, 1584, 1586, 1587, 1590, 1591, 1593, 1595, 1597, 1598, 1599, 1600, 1603, 1605, 1606, 1609])
set_option maxRecDepth 100000 in
def zB_63_96 : List Instr × List Nat := ([.sipush 0, .ireturn], [1609, 1610, 1611])
set_option maxRecDepth 100000 in
def zB_63_97 : List Instr × List Nat := ([.iinc 22 1, .goto 62], [1611, 1614, 1617])
set_option maxRecDepth 100000 in
def zB_63_98 : List Instr × List Nat := ([.sipush 0, .istore 22, .sipush 1, .aload 20, .sipush 0, .iaload, .isub, .istore 23], [1617, 1618, 1620, 1621, 1623, 1624, 1625, 1626, 1628])
set_option maxRecDepth 100000 in
def zB_63_99 : List Instr × List Nat := ([.iload 23, .aload 20, .sipush 1, .iaload, .if_icmp .ge 117, .sipush 0, .istore 24, .sipush 1, .istore 25, .sipush 1, .istore 26], [1628, 1630, 1632, 1633, 1634, 1637, 1638, 1640, 1641, 1643, 1644, 1646])
set_option maxRecDepth 100000 in
def zB_63_100 : List Instr × List Nat := ([.iload 26, .aload 20, .sipush 0, .iaload, .if_icmp .ge 113, .iload 23, .iload 26, .iadd, .sipush 1, .if_icmp .lt 112, .iload 23, .iload 26, .iadd, .aload 20, .sipush 1, .iaload, .if_icmp .lt 101, .goto 112], [1646, 1648, 1650, 1651, 1652, 1655, 1657, 1659, 1660, 1661, 1664, 1666, 1668, 1669, 1671, 1672, 1673, 1676, 1679])
set_option maxRecDepth 100000 in
def zB_63_101 : List Instr × List Nat := ([.aload 19, .iload 26, .iaload, .aload 19, .iload 26, .sipush 1, .isub, .iaload, .isub, .istore 27, .aload 19, .sipush 20, .iload 23, .iadd, .iload 26, .iadd, .iaload, .aload 19, .sipush 20, .iload 23, .iadd, .iload 26, .iadd, .sipush 1, .isub, .iaload, .isub, .istore 28, .iinc 24 1, .iload 25, .ifCond .eq 110, .iload 27, .ifCond .le 102, .sipush 1, .goto 103], [1679, 1681, 1683, 1684, 1686, 1688, 1689, 1690, 1691, 1692, 1694, 1696, 1698, 1700, 1701, 1703, 1704, 1705, 1707, 1709, 1711, 1712, 1714, 1715, 1716, 1717, 1718, 1719, 1721, 1724, 1726, 1729, 1731, 1734, 1735, 1738])
set_option maxRecDepth 100000 in
def zB_63_102 : List Instr × List Nat := ([.sipush 0], [1738, 1739])
set_option maxRecDepth 100000 in
def zB_63_103 : List Instr × List Nat := ([.iload 28, .ifCond .le 104, .sipush 1, .goto 105], [1739, 1741, 1744, 1745, 1748])
set_option maxRecDepth 100000 in
def zB_63_104 : List Instr × List Nat := ([.sipush 0], [1748, 1749])
set_option maxRecDepth 100000 in
def zB_63_105 : List Instr × List Nat := ([.if_icmp .ne 110, .iload 27, .ifCond .ge 106, .sipush 1, .goto 107], [1749, 1752, 1754, 1757, 1758, 1761])
set_option maxRecDepth 100000 in
def zB_63_106 : List Instr × List Nat := ([.sipush 0], [1761, 1762])
set_option maxRecDepth 100000 in
def zB_63_107 : List Instr × List Nat := ([.iload 28, .ifCond .ge 108, .sipush 1, .goto 109], [1762, 1764, 1767, 1768, 1771])
set_option maxRecDepth 100000 in
def zB_63_108 : List Instr × List Nat := ([.sipush 0], [1771, 1772])
set_option maxRecDepth 100000 in
def zB_63_109 : List Instr × List Nat := ([.if_icmp .ne 110, .sipush 1, .goto 111], [1772, 1775, 1776, 1779])
set_option maxRecDepth 100000 in
def zB_63_110 : List Instr × List Nat := ([.sipush 0], [1779, 1780])
set_option maxRecDepth 100000 in
def zB_63_111 : List Instr × List Nat := ([.istore 25], [1780, 1782])
set_option maxRecDepth 100000 in
def zB_63_112 : List Instr × List Nat := ([.iinc 26 1, .goto 100], [1782, 1785, 1788])
set_option maxRecDepth 100000 in
def zB_63_113 : List Instr × List Nat := ([.iload 22, .ifCond .ne 114, .iload 25, .ifCond .eq 115, .iload 24, .sipush 4, .if_icmp .le 115], [1788, 1790, 1793, 1795, 1798, 1800, 1801, 1804])
set_option maxRecDepth 100000 in
def zB_63_114 : List Instr × List Nat := ([.sipush 1, .goto 116], [1804, 1805, 1808])
set_option maxRecDepth 100000 in
def zB_63_115 : List Instr × List Nat := ([.sipush 0], [1808, 1809])
set_option maxRecDepth 100000 in
def zB_63_116 : List Instr × List Nat := ([.istore 22, .iinc 23 1, .goto 99], [1809, 1811, 1814, 1817])
set_option maxRecDepth 100000 in
def zB_63_117 : List Instr × List Nat := ([.aload 1, .sipush 0, .sipush 1, .invokevirtual 52, .iload 22, .ifCond .eq 118, .sipush 1, .goto 119], [1817, 1818, 1819, 1820, 1823, 1825, 1828, 1829, 1832])
set_option maxRecDepth 100000 in
def zB_63_118 : List Instr × List Nat := ([.sipush 0], [1832, 1833])
set_option maxRecDepth 100000 in
def zB_63_119 : List Instr × List Nat := ([.if_icmp .ne 122, .aload 1, .sipush 1, .sipush 0, .invokevirtual 52, .iload 22, .ifCond .eq 120, .sipush 1, .goto 121], [1833, 1836, 1837, 1838, 1839, 1842, 1844, 1847, 1848, 1851])
set_option maxRecDepth 100000 in
def zB_63_120 : List Instr × List Nat := ([.sipush 0], [1851, 1852])
set_option maxRecDepth 100000 in
def zB_63_121 : List Instr × List Nat := ([.if_icmp .eq 123], [1852, 1855])
set_option maxRecDepth 100000 in
def zB_63_122 : List Instr × List Nat := ([.sipush 0, .ireturn], [1855, 1856, 1857])
set_option maxRecDepth 100000 in
def zB_63_123 : List Instr × List Nat := ([.sipush 1, .aload 0, .sipush 35, .invokestatic 61, .sipush 4, .invokestatic 62, .iadd, .istore 23, .sipush 4, .newarray .int, .astore 24, .sipush 4, .newarray .int, .astore 25, .sipush 0, .istore 26, .sipush 0, .istore 27, .aload 1, .sipush 2, .sipush 2, .sipush 4, .invokevirtual 53, .sipush 1, .if_icmp .eq 124, .sipush 0, .ireturn], [1857, 1858, 1859, 1861, 1864, 1865, 1868, 1869, 1871, 1872, 1874, 1876, 1877, 1879, 1881, 1882, 1884, 1885, 1887, 1888, 1889, 1890, 1891, 1894, 1895, 1898, 1899, 1900])
set_option maxRecDepth 100000 in
def zB_63_124 : List Instr × List Nat := ([.sipush 0, .istore 28], [1900, 1901, 1903])
set_option maxRecDepth 100000 in
def zB_63_125 : List Instr × List Nat := ([.iload 28, .iload 23, .if_icmp .ge 136, .aload 24, .iload 28, .aload 0, .sipush 36, .iload 28, .iadd, .invokestatic 61, .iload 2, .sipush 1, .iadd, .invokestatic 62, .sipush 1, .isub, .iastore, .aload 25, .iload 28, .aload 0, .sipush 36, .iload 28, .iadd, .invokestatic 61, .sipush 5, .ishr, .iload 2, .sipush 1, .iadd, .invokestatic 62, .sipush 1, .isub, .iastore, .aload 24, .iload 28, .iaload, .ifCond .lt 126, .iload 26, .aload 24, .iload 28, .iaload, .ishr, .sipush 1, .iand, .sipush 1, .if_icmp .ne 126, .aload 24, .iload 28, .sipush (-1), .iastore], [1903, 1905, 1907, 1910, 1912, 1914, 1915, 1917, 1919, 1920, 1923, 1924, 1925, 1926, 1929, 1930, 1931, 1932, 1934, 1936, 1937, 1939, 1941, 1942, 1945, 1946, 1947, 1948, 1949, 1950, 1953, 1954, 1955, 1956, 1958, 1960, 1961, 1964, 1966, 1968, 1970, 1971, 1972, 1973, 1974, 1975, 1978, 1980, 1982, 1983, 1984])
set_option maxRecDepth 100000 in
def zB_63_126 : List Instr × List Nat := ([.aload 25, .iload 28, .iaload, .ifCond .lt 127, .iload 27, .aload 25, .iload 28, .iaload, .ishr, .sipush 1, .iand, .sipush 1, .if_icmp .ne 127, .aload 25, .iload 28, .sipush (-1), .iastore], [1984, 1986, 1988, 1989, 1992, 1994, 1996, 1998, 1999, 2000, 2001, 2002, 2003, 2006, 2008, 2010, 2011, 2012])
set_option maxRecDepth 100000 in
def zB_63_127 : List Instr × List Nat := ([.iload 26, .aload 24, .iload 28, .iaload, .ifCond .ge 128, .sipush 0, .goto 129], [2012, 2014, 2016, 2018, 2019, 2022, 2023, 2026])
set_option maxRecDepth 100000 in
def zB_63_128 : List Instr × List Nat := ([.sipush 1, .aload 24, .iload 28, .iaload, .ishl], [2026, 2027, 2029, 2031, 2032, 2033])
set_option maxRecDepth 100000 in
def zB_63_129 : List Instr × List Nat := ([.ior, .istore 26, .iload 27, .aload 25, .iload 28, .iaload, .ifCond .ge 130, .sipush 0, .goto 131], [2033, 2034, 2036, 2038, 2040, 2042, 2043, 2046, 2047, 2050])
set_option maxRecDepth 100000 in
def zB_63_130 : List Instr × List Nat := ([.sipush 1, .aload 25, .iload 28, .iaload, .ishl], [2050, 2051, 2053, 2055, 2056, 2057])
set_option maxRecDepth 100000 in
def zB_63_131 : List Instr × List Nat := ([.ior, .istore 27, .aload 1, .sipush 5, .invokevirtual 38, .iload 28, .if_icmp .ne 132, .aload 1, .sipush 2, .iload 28, .aload 25, .iload 28, .iaload, .invokevirtual 54, .sipush 1, .if_icmp .eq 133], [2057, 2058, 2060, 2061, 2062, 2065, 2067, 2070, 2071, 2072, 2074, 2076, 2078, 2079, 2082, 2083, 2086])
set_option maxRecDepth 100000 in
def zB_63_132 : List Instr × List Nat := ([.sipush 0, .ireturn], [2086, 2087, 2088])
set_option maxRecDepth 100000 in
def zB_63_133 : List Instr × List Nat := ([.aload 24, .iload 28, .iaload, .ifCond .lt 135, .aload 1, .iload 28, .aload 24, .iload 28, .iaload, .sipush 1, .invokevirtual 39, .ifCond .ne 134, .aload 1, .iload 28, .aload 24, .iload 28, .iaload, .sipush 50, .sipush 60, .invokevirtual 40, .ifCond .ge 135], [2088, 2090, 2092, 2093, 2096, 2097, 2099, 2101, 2103, 2104, 2105, 2108, 2111, 2112, 2114, 2116, 2118, 2119, 2121, 2123, 2126, 2129])
set_option maxRecDepth 100000 in
def zB_63_134 : List Instr × List Nat := ([.sipush 0, .ireturn], [2129, 2130, 2131])
set_option maxRecDepth 100000 in
def zB_63_135 : List Instr × List Nat := ([.iinc 28 1, .goto 125], [2131, 2134, 2137])
set_option maxRecDepth 100000 in
def zB_63_136 : List Instr × List Nat := ([.sipush 8, .newarray .int, .astore 28, .sipush 0, .istore 29, .sipush 0, .istore 30], [2137, 2139, 2141, 2143, 2144, 2146, 2147, 2149])
set_option maxRecDepth 100000 in
def zB_63_137 : List Instr × List Nat := ([.iload 30, .iload 23, .if_icmp .ge 147, .aload 24, .iload 30, .iaload, .aload 25, .iload 30, .iaload, .if_icmp .ne 138, .goto 146], [2149, 2151, 2153, 2156, 2158, 2160, 2161, 2163, 2165, 2166, 2169, 2172])
set_option maxRecDepth 100000 in
def zB_63_138 : List Instr × List Nat := ([.iload 29, .aload 24, .iload 30, .iaload, .ifCond .ge 139, .sipush 0, .goto 140], [2172, 2174, 2176, 2178, 2179, 2182, 2183, 2186])
set_option maxRecDepth 100000 in
def zB_63_139 : List Instr × List Nat := ([.sipush 1, .iload 30, .ishl], [2186, 2187, 2189, 2190])
set_option maxRecDepth 100000 in
def zB_63_140 : List Instr × List Nat := ([.ior, .istore 29, .aload 25, .iload 30, .iaload, .ifCond .ge 141, .goto 146], [2190, 2191, 2193, 2195, 2197, 2198, 2201, 2204])
set_option maxRecDepth 100000 in
def zB_63_141 : List Instr × List Nat := ([.iload 29, .sipush 16, .iload 30, .ishl, .ior, .istore 29, .aload 28, .sipush 4, .iload 30, .iadd, .aload 24, .iload 30, .iaload, .ifCond .ge 142, .sipush 0, .goto 143], [2204, 2206, 2208, 2210, 2211, 2212, 2214, 2216, 2217, 2219, 2220, 2222, 2224, 2225, 2228, 2229, 2232])
set_option maxRecDepth 100000 in
def zB_63_142 : List Instr × List Nat := ([.sipush 1, .iload 30, .ishl], [2232, 2233, 2235, 2236])
set_option maxRecDepth 100000 in
def zB_63_143 : List Instr × List Nat := ([.iastore, .sipush 0, .istore 31], [2236, 2237, 2238, 2240])
set_option maxRecDepth 100000 in
def zB_63_144 : List Instr × List Nat := ([.iload 31, .iload 23, .if_icmp .ge 146, .aload 24, .iload 31, .iaload, .aload 25, .iload 30, .iaload, .if_icmp .ne 145, .aload 28, .sipush 4, .iload 30, .iadd, .dup2, .iaload, .sipush 1, .iload 31, .ishl, .ior, .iastore], [2240, 2242, 2244, 2247, 2249, 2251, 2252, 2254, 2256, 2257, 2260, 2262, 2263, 2265, 2266, 2267, 2268, 2269, 2271, 2272, 2273, 2274])
set_option maxRecDepth 100000 in
def zB_63_145 : List Instr × List Nat := ([.iinc 31 1, .goto 144], [2274, 2277, 2280])
set_option maxRecDepth 100000 in
def zB_63_146 : List Instr × List Nat := ([.iinc 30 1, .goto 137], [2280, 2283, 2286])
set_option maxRecDepth 100000 in
def zB_63_147 : List Instr × List Nat := ([.sipush 1, .aload 0, .sipush 40, .invokestatic 61, .sipush 4, .invokestatic 62, .iadd, .istore 30, .sipush 4, .newarray .long, .astore 31, .aload 31, .sipush 0, .lconst 1, .lastore, .sipush 0, .istore 32], [2286, 2287, 2288, 2290, 2293, 2294, 2297, 2298, 2300, 2301, 2303, 2305, 2307, 2308, 2309, 2310, 2311, 2313])
set_option maxRecDepth 100000 in
def zB_63_148 : List Instr × List Nat := ([.aload 31, .iload 29, .sipush 64, .idiv, .laload, .iload 29, .sipush 64, .irem, .lshr, .lconst 1, .land, .lconst 0, .lcmp, .ifCond .ne 160, .sipush 4, .newarray .long, .astore 33, .sipush 0, .istore 34], [2313, 2315, 2317, 2319, 2320, 2321, 2323, 2325, 2326, 2327, 2328, 2329, 2330, 2331, 2334, 2335, 2337, 2339, 2340, 2342])
set_option maxRecDepth 100000 in
def zB_63_149 : List Instr × List Nat := ([.iload 34, .iload 29, .if_icmp .gt 159, .iload 34, .iload 29, .sipush (-1), .ixor, .iand, .ifCond .ne 158, .aload 31, .iload 34, .sipush 64, .idiv, .laload, .iload 34, .sipush 64, .irem, .lshr, .lconst 1, .land, .lconst 0, .lcmp, .ifCond .ne 150, .goto 158], [2342, 2344, 2346, 2349, 2351, 2353, 2354, 2355, 2356, 2359, 2361, 2363, 2365, 2366, 2367, 2369, 2371, 2372, 2373, 2374, 2375, 2376, 2377, 2380, 2383])
set_option maxRecDepth 100000 in
def zB_63_150 : List Instr × List Nat := ([.sipush 0, .istore 35, .sipush 0, .istore 36], [2383, 2384, 2386, 2387, 2389])
set_option maxRecDepth 100000 in
def zB_63_151 : List Instr × List Nat := ([.iload 36, .sipush 8, .if_icmp .ge 153, .iload 29, .iload 36, .ishr, .sipush 1, .iand, .sipush 1, .if_icmp .ne 152, .iload 34, .iload 36, .ishr, .sipush 1, .iand, .ifCond .ne 152, .aload 28, .iload 36, .iaload, .iload 34, .sipush (-1), .ixor, .iand, .ifCond .ne 152, .iload 35, .sipush 1, .iload 36, .ishl, .ior, .istore 35], [2389, 2391, 2393, 2396, 2398, 2400, 2401, 2402, 2403, 2404, 2407, 2409, 2411, 2412, 2413, 2414, 2417, 2419, 2421, 2422, 2424, 2425, 2426, 2427, 2430, 2432, 2433, 2435, 2436, 2437, 2439])
set_option maxRecDepth 100000 in
def zB_63_152 : List Instr × List Nat := ([.iinc 36 1, .goto 151], [2439, 2442, 2445])
set_option maxRecDepth 100000 in
def zB_63_153 : List Instr × List Nat := ([.iload 35, .istore 36], [2445, 2447, 2449])
set_option maxRecDepth 100000 in
def zB_63_154 : List Instr × List Nat := ([.iload 36, .ifCond .le 158, .sipush 0, .istore 37, .sipush 0, .istore 38], [2449, 2451, 2454, 2455, 2457, 2458, 2460])
set_option maxRecDepth 100000 in
def zB_63_155 : List Instr × List Nat := ([.iload 38, .sipush 8, .if_icmp .ge 156, .iload 37, .iload 36, .iload 38, .ishr, .sipush 1, .iand, .iadd, .istore 37, .iinc 38 1, .goto 155], [2460, 2462, 2464, 2467, 2469, 2471, 2473, 2474, 2475, 2476, 2477, 2479, 2482, 2485])
set_option maxRecDepth 100000 in
def zB_63_156 : List Instr × List Nat := ([.iload 37, .iload 30, .if_icmp .gt 157, .aload 33, .iload 34, .iload 36, .ior, .sipush 64, .idiv, .dup2, .laload, .lconst 1, .iload 34, .iload 36, .ior, .sipush 64, .irem, .lshl, .lor, .lastore], [2485, 2487, 2489, 2492, 2494, 2496, 2498, 2499, 2501, 2502, 2503, 2504, 2505, 2507, 2509, 2510, 2512, 2513, 2514, 2515, 2516])
set_option maxRecDepth 100000 in
def zB_63_157 : List Instr × List Nat := ([.iload 36, .sipush 1, .isub, .iload 35, .iand, .istore 36, .goto 154], [2516, 2518, 2519, 2520, 2522, 2523, 2525, 2528])
set_option maxRecDepth 100000 in
def zB_63_158 : List Instr × List Nat := ([.iinc 34 1, .goto 149], [2528, 2531, 2534])
set_option maxRecDepth 100000 in
def zB_63_159 : List Instr × List Nat := ([.aload 33, .astore 31, .iinc 32 1, .goto 148], [2534, 2536, 2538, 2541, 2544])
set_option maxRecDepth 100000 in
def zB_63_160 : List Instr × List Nat := ([.aload 1, .sipush 55, .iload 30, .sipush 2, .sipush 2, .sipush 0, .invokevirtual 41, .iload 32, .if_icmp .ne 163, .aload 1, .sipush 61, .sipush 9, .sipush 2, .sipush 2, .sipush 0, .invokevirtual 41, .iload 27, .ifCond .ne 161, .sipush 0, .goto 162], [2544, 2545, 2547, 2549, 2550, 2551, 2552, 2555, 2557, 2560, 2561, 2563, 2565, 2566, 2567, 2568, 2571, 2573, 2576, 2577, 2580])
set_option maxRecDepth 100000 in
def zB_63_161 : List Instr × List Nat := ([.sipush 1], [2580, 2581])
set_option maxRecDepth 100000 in
def zB_63_162 : List Instr × List Nat := ([.if_icmp .ne 163, .sipush 1, .goto 164], [2581, 2584, 2585, 2588])
set_option maxRecDepth 100000 in
def zB_63_163 : List Instr × List Nat := ([.sipush 0], [2588, 2589])
set_option maxRecDepth 100000 in
def zB_63_164 : List Instr × List Nat := ([.ireturn], [2589, 2590])
set_option maxRecDepth 100000 in
def zB_63 : List (List Instr × List Nat) := [zB_63_0, zB_63_1, zB_63_2, zB_63_3, zB_63_4, zB_63_5, zB_63_6, zB_63_7, zB_63_8, zB_63_9, zB_63_10, zB_63_11, zB_63_12, zB_63_13, zB_63_14, zB_63_15, zB_63_16, zB_63_17, zB_63_18, zB_63_19, zB_63_20, zB_63_21, zB_63_22, zB_63_23, zB_63_24, zB_63_25, zB_63_26, zB_63_27, zB_63_28, zB_63_29, zB_63_30, zB_63_31, zB_63_32, zB_63_33, zB_63_34, zB_63_35, zB_63_36, zB_63_37, zB_63_38, zB_63_39, zB_63_40, zB_63_41, zB_63_42, zB_63_43, zB_63_44, zB_63_45, zB_63_46, zB_63_47, zB_63_48, zB_63_49, zB_63_50, zB_63_51, zB_63_52, zB_63_53, zB_63_54, zB_63_55, zB_63_56, zB_63_57, zB_63_58, zB_63_59, zB_63_60, zB_63_61, zB_63_62, zB_63_63, zB_63_64, zB_63_65, zB_63_66, zB_63_67, zB_63_68, zB_63_69, zB_63_70, zB_63_71, zB_63_72, zB_63_73, zB_63_74, zB_63_75, zB_63_76, zB_63_77, zB_63_78, zB_63_79, zB_63_80, zB_63_81, zB_63_82, zB_63_83, zB_63_84, zB_63_85, zB_63_86, zB_63_87, zB_63_88, zB_63_89, zB_63_90, zB_63_91, zB_63_92, zB_63_93, zB_63_94, zB_63_95, zB_63_96, zB_63_97, zB_63_98, zB_63_99, zB_63_100, zB_63_101, zB_63_102, zB_63_103, zB_63_104, zB_63_105, zB_63_106, zB_63_107, zB_63_108, zB_63_109, zB_63_110, zB_63_111, zB_63_112, zB_63_113, zB_63_114, zB_63_115, zB_63_116, zB_63_117, zB_63_118, zB_63_119, zB_63_120, zB_63_121, zB_63_122, zB_63_123, zB_63_124, zB_63_125, zB_63_126, zB_63_127, zB_63_128, zB_63_129, zB_63_130, zB_63_131, zB_63_132, zB_63_133, zB_63_134, zB_63_135, zB_63_136, zB_63_137, zB_63_138, zB_63_139, zB_63_140, zB_63_141, zB_63_142, zB_63_143, zB_63_144, zB_63_145, zB_63_146, zB_63_147, zB_63_148, zB_63_149, zB_63_150, zB_63_151, zB_63_152, zB_63_153, zB_63_154, zB_63_155, zB_63_156, zB_63_157, zB_63_158, zB_63_159, zB_63_160, zB_63_161, zB_63_162, zB_63_163, zB_63_164]
set_option maxRecDepth 100000 in
def zMT : List (List (List Instr × List Nat) × Nat) := [(zB_0, 76), (zB_1, 67), (zB_2, 87), (zB_3, 124), (zB_4, 77), (zB_5, 58), (zB_6, 17), (zB_7, 48), (zB_8, 36), (zB_9, 16), (zB_10, 85), (zB_11, 30), (zB_12, 86), (zB_13, 76), (zB_14, 18), (zB_15, 34), (zB_16, 14), (zB_17, 29), (zB_18, 15), (zB_19, 25), (zB_20, 36), (zB_21, 50), (zB_22, 57), (zB_23, 51), (zB_24, 107), (zB_25, 18), (zB_26, 54), (zB_27, 60), (zB_28, 98), (zB_29, 69), (zB_30, 57), (zB_31, 35), (zB_32, 74), (zB_33, 53), (zB_34, 32), (zB_35, 18), (zB_36, 54), (zB_37, 43), (zB_38, 22), (zB_39, 65), (zB_40, 120), (zB_41, 137), (zB_42, 62), (zB_43, 33), (zB_44, 42), (zB_45, 32), (zB_46, 12), (zB_47, 130), (zB_48, 129), (zB_49, 127), (zB_50, 133), (zB_51, 123), (zB_52, 54), (zB_53, 56), (zB_54, 68), (zB_55, 16), (zB_56, 7), (zB_57, 18), (zB_58, 19), (zB_59, 53), (zB_60, 21), (zB_61, 19), (zB_62, 7), (zB_63, 2590)]
def zM (mt : Nat) : List (List Instr × List Nat) × Nat := (zMT[mt]?).getD ([], 0)
def zblk (mt b : Nat) : List Instr := (((zM mt).1[b]?).getD ([], [(zM mt).2])).1
def zpcs (mt b : Nat) : List Nat := (((zM mt).1[b]?).getD ([], [(zM mt).2])).2
set_option maxRecDepth 100000 in
def zmTT : List (MethodName × ByteArray × Nat × Option FieldType × Nat × Nat × Nat) := [
  (yX3_add, cX3_add, 5, some .int, 4, 3, 0),
  (yX3_sharesDay, cX3_sharesDay, 6, some .boolean, 4, 3, 0),
  (yX5_readHands, cX5_readHands, 4, none, 2, 5, 1),
  (yX5_want, cX5_want, 7, some .boolean, 3, 5, 1),
  (yX5_addGet, cX5_addGet, 5, none, 2, 5, 0),
  (yX5_fewestDays, cX5_fewestDays, 6, some .int, 1, 5, 2),
  (yX5_daysFor, cX5_daysFor, 2, some .int, 2, 5, 0),
  (yX5_mostReadyAfter, cX5_mostReadyAfter, 4, some .int, 1, 5, 1),
  (yX5_readyAfter, cX5_readyAfter, 4, some .int, 1, 5, 0),
  (yX6_lay, cX6_lay, 4, none, 3, 6, 2),
  (yX6_layOn, cX6_layOn, 8, none, 5, 6, 1),
  (yX6_rise, cX6_rise, 2, some .int, 2, 6, 0),
  (yX6_findBest, cX6_findBest, 5, some .boolean, 2, 6, 3),
  (yX6_growsLike, cX6_growsLike, 7, some .boolean, 3, 6, 2),
  (yX7_knows, cX7_knows, 2, some .boolean, 1, 7, 0),
  (yX7_add, cX7_add, 2, some .int, 1, 7, 0),
  (yX7_hadMakers, cX7_hadMakers, 2, some .int, 1, 7, 0),
  (yX7_mayHave, cX7_mayHave, 4, some .boolean, 3, 7, 1),
  (yX8_knows, cX8_knows, 2, some .boolean, 1, 8, 0),
  (yX8_renew, cX8_renew, 4, none, 3, 8, 1),
  (yX8_cutTo, cX8_cutTo, 2, some .int, 2, 8, 0),
  (yX8_missing, cX8_missing, 4, some .int, 3, 8, 0),
  (yX8_take, cX8_take, 6, some .int, 4, 8, 1),
  (yX8_takenWithin, cX8_takenWithin, 5, some .boolean, 3, 8, 0),
  (yX8_longestRun, cX8_longestRun, 10, some .int, 4, 8, 1),
  (yX9_knows, cX9_knows, 2, some .boolean, 1, 9, 0),
  (yX9_add, cX9_add, 4, some .int, 3, 9, 0),
  (yX9_countBetween, cX9_countBetween, 6, some .int, 3, 9, 0),
  (yX9_weigh, cX9_weigh, 5, none, 2, 9, 3),
  (yX9_addFree, cX9_addFree, 4, none, 1, 9, 0),
  (yX9_choose, cX9_choose, 3, none, 0, 9, 2),
  (yX9_riskOf, cX9_riskOf, 2, some .int, 1, 9, 1),
  (yX9_planeOf, cX9_planeOf, 4, some .int, 1, 9, 0),
  (yX9_countDaysOver, cX9_countDaysOver, 4, some .int, 1, 9, 4),
  (yX9_isFirstOfDay, cX9_isFirstOfDay, 3, some .boolean, 1, 9, 0),
  (yX10_knows, cX10_knows, 2, some .boolean, 1, 10, 0),
  (yX10_add, cX10_add, 4, some .int, 3, 10, 0),
  (yX11_violin, cX11_violin, 4, some .int, 3, 11, 1),
  (yX11_player, cX11_player, 2, some .int, 1, 11, 1),
  (yX11_trial, cX11_trial, 5, some .int, 3, 11, 1),
  (yX11_lend, cX11_lend, 6, some .int, 4, 11, 3),
  (yX11_days, cX11_days, 7, some .int, 5, 11, 3),
  (yX11_trip, cX11_trip, 4, some .int, 3, 11, 1),
  (yX11_spread, cX11_spread, 2, some .int, 1, 11, 4),
  (yX11_plane, cX11_plane, 2, some .int, 1, 11, 4),
  (yX11_limit, cX11_limit, 3, some .int, 1, 11, 1),
  (yX11_over, cX11_over, 1, some .int, 0, 11, 5),
  (yX11_damp, cX11_damp, 9, some .int, 7, 11, 2),
  (yX11_rings, cX11_rings, 7, some .int, 5, 11, 2),
  (yX11_oak, cX11_oak, 7, some .int, 5, 11, 2),
  (yX11_laid, cX11_laid, 5, some .long, 3, 11, 3),
  (yX11_best, cX11_best, 3, some .long, 2, 11, 4),
  (yX11_oneTree, cX11_oneTree, 3, some .int, 2, 11, 3),
  (yX11_sheet, cX11_sheet, 4, some .int, 3, 11, 2),
  (yX11_put, cX11_put, 5, some .int, 3, 11, 1),
  (yX11_within, cX11_within, 3, some .boolean, 3, 11, 0),
  (yX11_isLane, cX11_isLane, 1, some .boolean, 1, 11, 1),
  (yX11_met, cX11_met, 2, some .int, 1, 11, 0),
  (yX11_mayHave, cX11_mayHave, 3, some .boolean, 2, 11, 2),
  (yJ6_bitCount_0f7a4, cJ6_bitCount_0f7a4, 1, some .int, 1, 14, 0),
  (yJ7_fill_53178, cJ7_fill_53178, 4, none, 2, 16, 0),
  (yL_cell, cL_cell, 2, some .int, 2, 13, 0),
  (yL_some, cL_some, 2, some .int, 2, 13, 0),
  (yL_law, cL_law, 39, some .boolean, 1, 13, 6)]
def zmT (mt : Nat) : MethodName × ByteArray × Nat × Option FieldType × Nat × Nat × Nat := (zmTT[mt]?).getD (yL_law, cL_law, 0, none, 0, 99, 0)
set_option maxRecDepth 100000 in
def zstT : List Bool := [false, false, false, false, false, false, true, false, false, false, false, true, false, false, false, false, false, false, false, false, true, false, false, false, false, false, false, false, false, false, false, false, false, false, false, false, false, false, false, false, false, false, false, false, false, false, false, false, false, false, false, false, false, false, false, true, true, false, false, true, true, true, true, false]
def zst? (k : Nat) : Bool := (zstT[k]?).getD false
set_option maxRecDepth 100000 in
def zfkT : List (Option Nat) := [some 13, none, some 14, none, none, none, none, none, none, none, none, none, none, none, none, none, none, none, none, none, none, none, none, none, none, none, none, none, none, none, none, none, none, none, none, none, none, none, none, none, none, none, none, none, none, none, none, none, none, none, none, none, none, none, none, none, none, none, none, none, none, none, none, none, some 15, some 16, some 17, some 18, none, some 19, none, none, none, none, none, none, none, none, none, none, none, none, none, none, none, none, none, none, none, none, none, none, none, none, none, none, none, none, none, none, none, none, none, none, none, none, none, none, none, none, none, none, none, none, none, none, none, none, none, none, none, none, none, none, none, none, none, none, none, none, some 20, some 21, some 32, some 33, some 34, some 35, some 36, some 37, some 38, none, none, none, none, none, none, none, none, none, none, none, none, none, none, none, none, none, none, none, none, none, none, none, none, none, none, none, none, none, none, none, none, none, none, none, none, none, none, none, none, none, none, none, none, none, none, none, none, none, none, none, none, none, some 39, some 40, some 41, some 42, some 43, none, none, none, none, none, none, none, none, none, none, none, none, none, none, none, none, none, none, none, none, none, none, none, none, none, none, none, none, none, none, none, none, none, none, none, none, none, none, none, none, none, none, none, none, none, none, none, none, none, none, none, none, none, none, none, none, none, none, none, some 44, some 45, some 46, none, none, none, none, none, none, none, none, none, none, none, none, none, none, none, none, none, none, none, none, none, none, none, none, none, none, none, none, none, none, none, none, none, none, none, none, none, none, none, none, none, none, none, none, none, none, none, none, none, none, none, none, none, none, none, none, none, none, none, none, none, some 47, some 48, none, some 49, none, none, none, none, none, none, none, none, none, none, none, none, none, none, none, none, none, none, none, none, none, none, none, none, none, none, none, none, none, none, none, none, none, none, none, none, none, none, none, none, none, none, none, none, none, none, none, none, none, none, none, none, none, none, none, none, none, none, none, none, some 50, none, none, none, none, none, none, none, none, none, none, none, none, none, none, none, none, none, none, none, none, none, none, none, none, none, none, none, none, none, none, none, none, none, none, none, none, none, none, none, none, none, none, none, none, none, none, none, none, none, none, none, none, none, none, none, none, none, none, none, none, none, none, none, some 51, some 52, some 53, some 54, none, none, none, none, none, none, none, none, none, none, none, none, none, none, none, none, none, none, none, none, none, none, none, none, none, none, none, none, none, none, none, none, none, none, none, none, none, none, none, none, none, none, none, none, none, none, none, none, none, none, none, none, none, none, none, none, none, none, none, none, some 65, some 66, some 67, some 72, none, none, none, none, none, none, none, none, none, none, none, none, none, none, none, none, none, none, none, none, none, none, none, none, none, none, none, none, none, none, none, none, none, none, none, none, none, none, none, none, none, none, none, none, none, none, none, none, none, none, none, none, none, none, none, none, none, none, none, none, some 73, some 74, some 75, none, none, some 76, none, none, some 77, none, none, none, none, none, none, none, none, none, none, none, none, none, none, none, none, none, none, none, none, none, none, none, none, none, none, none, none, none, none, none, none, none, none, none, none, none, none, none, none, none, none, none, none, none, none, none, none, none, none, none, none, none, none, none, some 78, some 79, some 80, some 81, some 82, none, none, none, none, none, none, none, none, none, none, none, none, none, none, none, none, none, none, none, none, none, none, none, none, none, none, none, none, none, none, none, none, none, none, none, none, none, none, none, none, none, none, none, none, none, none, none, none, none, none, none, none, none, none, none, none, none, none, none, some 10, some 7, some 3, some 4, some 1, some 9, some 8, some 6, some 0, some 2, some 5, none, none, none, none, none, none, none, none, none, none, none, none, none, none, none, none, none, none, none, none, none, none, none, none, none, none, none, none, none, none, none, none, none, none, none, none, none, none, none, none, none, none, none, none, none, none, none, none, none, none, none, none, none]
def zfk (q : Nat) : Option Nat := (zfkT[q]?).getD none
def zLAW : Nat := 63
def zNf (k : Nat) : Nat := ([6, 9, 11, 6, 4, 5, 7, 5, 4, 11, 6, 13][k]?).getD 0
set_option maxRecDepth 100000 in
def zarT : List (Option (Nat × Nat × Nat)) := [none, none, none, none, none, none, none, none, none, none, none, none, none, some (0, 4, 0), some (0, 4, 0), some (0, 40, 0), some (0, 40, 0), some (0, 40, 0), some (0, 40, 0), some (0, 602, 0), some (0, 10, 0), some (3, 10, 22), some (0, 10, 0), some (0, 10, 0), some (0, 10, 0), some (0, 10, 0), some (0, 10, 0), some (0, 10, 0), some (0, 10, 0), some (0, 10, 0), some (0, 10, 0), some (0, 10, 0), some (0, 10, 0), some (0, 10, 0), some (0, 21, 0), some (0, 21, 0), some (2, 21, 0), some (2, 21, 0), some (2, 11, 0), some (0, 40, 0), some (0, 40, 0), some (0, 40, 0), some (0, 40, 0), some (0, 40, 0), some (0, 40, 0), some (0, 40, 0), some (0, 40, 0), some (0, 10, 0), some (0, 10, 0), some (0, 10, 0), some (0, 60, 0), some (0, 10, 0), some (0, 10, 0), some (0, 10, 0), some (3, 10, 55), some (0, 10, 0), some (0, 10, 0), some (0, 10, 0), some (0, 10, 0), some (0, 10, 0), some (0, 10, 0), some (0, 10, 0), some (0, 10, 0), some (0, 10, 0), some (0, 10, 0), some (0, 4, 0), some (0, 4, 0), some (3, 4, 68), some (0, 60, 0), some (0, 60, 0), some (0, 60, 0), some (0, 60, 0), some (0, 60, 0), some (0, 40, 0), some (0, 40, 0), some (0, 40, 0), some (0, 1024, 0), some (0, 2, 0), some (0, 10, 0), some (0, 10, 0), some (0, 10, 0), some (0, 10, 0), some (3, 10, 83), some (0, 20, 0), some (0, 20, 0), some (0, 20, 0), some (0, 20, 0), some (0, 20, 0), some (0, 20, 0), some (0, 20, 0), some (0, 20, 0), some (0, 20, 0), some (0, 20, 0), some (0, 5, 0), some (0, 5, 0), some (0, 5, 0), some (0, 30, 0), some (0, 40, 0), some (0, 2, 0), some (0, 4, 0), some (0, 4, 0), some (0, 8, 0), some (2, 4, 0), some (2, 4, 0), some (2, 4, 0), some (2, 4, 0), some (2, 4, 0), some (2, 4, 0), some (2, 4, 0), some (2, 4, 0), some (2, 4, 0), some (2, 4, 0), some (2, 4, 0)]
def zar (p : Nat) : Option (Nat × Nat × Nat) := (zarT[p]?).getD none
def zLc : Nat → Int64
  | 0 => -9223372036854775808
  | 1 => -9223372036854775808
  | _ => 0
def zR (k : Nat) : String := ([RX0, RX1, RX2, RX3, RX4, RX5, RX6, RX7, RX8, RX9, RX10, RX11, RX11, RL, RJ6, RJ9, RJ7][k]?).getD ""
def zCl (k : Nat) : vw_C := (vwCl[k]?).getD (RX0, TX0, 6)
def zT (q : Nat) : String × String × String × Bool := (zCl (q / 64)).2.1 (q % 64)
/-- (own class, pool index, field) -/
def zfl : List (Nat × Nat × Nat) := [(3, 11, 192), (3, 15, 193), (3, 18, 194), (3, 21, 195), (3, 24, 196), (3, 27, 197), (5, 9, 320), (5, 17, 321), (5, 20, 322), (5, 24, 323), (5, 27, 324), (5, 36, 197), (5, 41, 194), (5, 44, 195), (5, 47, 192), (5, 50, 193), (6, 9, 384), (6, 15, 385), (6, 22, 387), (6, 25, 388), (6, 28, 389), (6, 31, 390), (6, 55, 643), (6, 60, 644), (7, 11, 448), (7, 15, 449), (7, 18, 450), (7, 25, 451), (7, 28, 452), (8, 11, 512), (8, 15, 513), (8, 20, 514), (8, 23, 515), (9, 11, 576), (9, 15, 577), (9, 18, 578), (9, 21, 579), (9, 26, 580), (9, 31, 581), (9, 34, 582), (9, 37, 583), (9, 40, 584), (9, 43, 585), (9, 46, 586), (9, 55, 642), (10, 11, 640), (10, 15, 641), (10, 18, 642), (10, 29, 645), (11, 12, 704), (11, 21, 705), (11, 28, 706), (11, 49, 709), (11, 56, 710), (11, 63, 711), (11, 84, 714), (11, 92, 716), (11, 112, 451), (11, 127, 641), (11, 133, 643), (11, 198, 450), (11, 239, 452), (11, 250, 515), (11, 253, 645), (11, 294, 585), (11, 297, 577), (11, 304, 580), (11, 318, 644), (11, 327, 384), (11, 329, 385), (11, 330, 386), (11, 339, 387), (11, 342, 388), (11, 348, 389), (11, 351, 390), (11, 372, 512), (11, 378, 514)]
/-- (own class, pool index, method) -/
def zmv : List (Nat × Nat × Nat) := [(5, 53, 4), (5, 67, 7), (5, 75, 8), (6, 34, 10), (6, 51, 9), (7, 32, 16), (8, 32, 21), (9, 58, 29), (9, 62, 30), (9, 65, 31), (9, 75, 34), (9, 79, 28), (11, 100, 36), (11, 104, 15), (11, 107, 14), (11, 111, 35), (11, 120, 58), (11, 191, 1), (11, 195, 0), (11, 235, 18), (11, 240, 22), (11, 243, 57), (11, 246, 2), (11, 254, 3), (11, 258, 5), (11, 282, 27), (11, 285, 26), (11, 286, 25), (11, 290, 28), (11, 300, 32), (11, 307, 33), (11, 311, 23), (11, 314, 24), (11, 335, 9), (11, 345, 12), (11, 354, 13), (11, 368, 19), (11, 375, 21), (11, 403, 17), (13, 22, 37), (13, 26, 42), (13, 29, 43), (13, 33, 44), (13, 36, 45), (13, 40, 46), (13, 44, 53), (13, 47, 54), (13, 50, 47), (13, 54, 49), (13, 58, 48), (13, 61, 50), (13, 67, 51), (13, 71, 52), (13, 74, 38), (13, 77, 39), (13, 80, 40), (13, 84, 41)]
def zms : List (Nat × Nat × Nat) := [(5, 30, 60), (5, 57, 59), (5, 63, 6), (6, 47, 11), (8, 26, 60), (9, 49, 60), (11, 95, 55), (11, 236, 56), (11, 381, 20), (13, 12, 61), (13, 18, 62)]
def zmx : List (Nat × Nat) := [(5, 78), (6, 44), (8, 42), (9, 69)]
def zmn : List (Nat × Nat) := [(5, 70), (6, 38)]
def zmc : List (Nat × Nat) := [(8, 36), (11, 321)]
def zcn : List (Nat × Nat × Int) := [(11, 99, 1000000), (11, 190, 100000), (11, 303, 100000000), (13, 7, 747796405), (13, 8, 2147483647), (13, 39, 1000000), (14, 265, 1431655765), (14, 266, 858993459), (14, 267, 252645135)]
def zlc : List (Nat × Nat × Nat) := [(11, 333, 0), (13, 65, 1)]
